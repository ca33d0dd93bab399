/-! A LINE OF THE BANK -/
abbrev tV (B : Int → Int) (n q : Int) : Int := tkV B q (tkE B n q - q).toNat
abbrev vPn (B : Int → Int) (n : Int) (w : Int → Int) (q : Int) : Prop := vNm B n q 5 0 (aPe w - 1)
/-- right or wrong, where it stands then, the rows then -/
abbrev bR : Type := Int × Int × (Int → Int)
/-- one more, whose pains are the figures at q -/
def wPer (B : Int → Int) (w : Int → Int) (be q : Int) : Int → Int := fun k =>
  if k = 0 then aPe w + 1 else
  if 12 + 13 * aPe w ≤ k ∧ k < 12 + 13 * aPe w + 13 then (if k = 12 + 13 * aPe w then be else if k = 12 + 13 * aPe w + 4 then -1 else if k < 12 + 13 * aPe w + 6 then 0 else B (q + (k - (12 + 13 * aPe w + 6))) - 48) else
  if 116 ≤ k ∧ k < 180 ∧ ((k - 116) / 8 = aPe w ∨ (k - 116) % 8 = aPe w) then 0 else w k
def bPer (B : Int → Int) (n : Int) (w : Int → Int) (q : Int) : bR :=
  if 8 ≤ aPe w then (0, q, w) else
  if vWd B n (tkN B n q) 1 then (
    if vNm B n (tkN B n (tkN B n q)) 5 1 99 then (
      if vWd B n (tkN B n (tkN B n (tkN B n q))) 2 then (
        if vNm B n (tkN B n (tkN B n (tkN B n (tkN B n q)))) 7 0 9999999 ∧ tkE B n (tkN B n (tkN B n (tkN B n (tkN B n q)))) - tkN B n (tkN B n (tkN B n (tkN B n q))) = 7 then (1, tkN B n (tkN B n (tkN B n (tkN B n (tkN B n q)))), wPer B w (tV B n (tkN B n (tkN B n q))) (tkN B n (tkN B n (tkN B n (tkN B n q)))))
        else (0, tkN B n (tkN B n (tkN B n (tkN B n q))), w))
      else (0, tkN B n (tkN B n (tkN B n q)), w))
    else (0, tkN B n (tkN B n q), w))
  else (0, tkN B n q, w)
/-- heir (c = 4), hears (c = 5), owes (c = 0) -/
def bTwo (B : Int → Int) (n : Int) (w : Int → Int) (q c : Int) : bR :=
  if vPn B n w (tkN B n q) then (
    if vPn B n w (tkN B n (tkN B n q)) ∧ ¬ tV B n (tkN B n (tkN B n q)) = tV B n (tkN B n q) then (
      if c = 4 then (1, tkN B n (tkN B n (tkN B n q)), wup w (12 + 13 * tV B n (tkN B n q) + 4) (tV B n (tkN B n (tkN B n q)))) else
      if c = 5 then (1, tkN B n (tkN B n (tkN B n q)), wup w (12 + 13 * tV B n (tkN B n q) + 5) (jOr (aOf w (tV B n (tkN B n q)) 5) (jShl 1 (tV B n (tkN B n (tkN B n q)))))) else
      if vNm B n (tkN B n (tkN B n (tkN B n q))) 5 0 9999 then (1, tkN B n (tkN B n (tkN B n (tkN B n q))), wup w (116 + 8 * tV B n (tkN B n q) + tV B n (tkN B n (tkN B n q))) (tV B n (tkN B n (tkN B n (tkN B n q)))))
      else (0, tkN B n (tkN B n (tkN B n q)), w))
    else (0, tkN B n (tkN B n q), w))
  else (0, tkN B n q, w)
/-- account (c = 1), forged (c = 2), dead (c = 3) -/
def bOne (B : Int → Int) (n : Int) (w : Int → Int) (q c : Int) : bR :=
  if vPn B n w (tkN B n q) then (
    if c = 3 then (1, tkN B n (tkN B n q), wup w (12 + 13 * tV B n (tkN B n q) + 3) 1) else
    if vNm B n (tkN B n (tkN B n q)) 5 0 (if c = 2 then aOf w (tV B n (tkN B n q)) 1 else 99999) then (
      if c = 2 then (1, tkN B n (tkN B n (tkN B n q)), wup w (12 + 13 * tV B n (tkN B n q) + 2) (tV B n (tkN B n (tkN B n q))))
      else (1, tkN B n (tkN B n (tkN B n q)), wup (wup w (12 + 13 * tV B n (tkN B n q) + 1) (tV B n (tkN B n (tkN B n q)))) (12 + 13 * tV B n (tkN B n q) + 2) 0))
    else (0, tkN B n (tkN B n q), w))
  else (0, tkN B n q, w)
/-- vault 4, rate 5, rain 6, fall 7 -/
abbrev bMost (c : Int) : Int := if c = 4 then 99999 else if c = 5 then 20 else 100
def bSet (B : Int → Int) (n : Int) (w : Int → Int) (q c : Int) : bR :=
  if vNm B n (tkN B n q) 5 0 (bMost c) then (1, tkN B n (tkN B n q), wup w c (tV B n (tkN B n q))) else (0, tkN B n q, w)
/-- two words are never at one place -/
theorem wd_one {B : Int → Int} {n q : Int} {s t : Nat} (hs : s < 13) (ht : t < 13) (hne : s ≠ t) (h : vWd B n q s) : ¬ vWd B n q t := by
  intro h2
  have hl : (jzBy.getD s []).length = (jzBy.getD t []).length := by
    have h3 := h.2.1
    have h4 := h2.2.1
    have e1 : txL s = ((jzBy.getD s []).length : Int) := rfl
    have e2 : txL t = ((jzBy.getD t []).length : Int) := rfl
    omega
  have hall : ∀ i : Nat, i < (jzBy.getD s []).length → (jzBy.getD s []).getD i 0 = (jzBy.getD t []).getD i 0 := fun i hi => by
    have h3 := h.2.2 i hi
    have h4 := h2.2.2 i (by omega)
    omega
  have key : ∀ s : Fin 13, ∀ t : Fin 13, s ≠ t → (jzBy.getD s.val []).length = (jzBy.getD t.val []).length → ∃ i : Fin 8, i.val < (jzBy.getD s.val []).length ∧ (jzBy.getD s.val []).getD i.val 0 ≠ (jzBy.getD t.val []).getD i.val 0 := by decide +kernel
  obtain ⟨i, i1, i2⟩ := key ⟨s, hs⟩ ⟨t, ht⟩ (fun e => hne (by have := congrArg Fin.val e; exact this)) hl
  exact i2 (hall i.val i1)
theorem tV_in {B : Int → Int} {n q f lo hi : Int} (h : vNm B n q f lo hi) : lo ≤ tV B n q ∧ tV B n q ≤ hi := h.2.2
theorem vPn_in {B : Int → Int} {n q : Int} {w : Int → Int} (h : vPn B n w q) : 0 ≤ tV B n q ∧ tV B n q < aPe w := by
  have := h.2.2
  show 0 ≤ tkV B q (tkE B n q - q).toNat ∧ tkV B q (tkE B n q - q).toNat < aPe w
  omega
/-- what a line of the class may change -/
abbrev FrB (I J : Nat → Int → Int) : Prop := (∀ a, (a < 12 ∨ 19 < a) → a ≠ 154 → J a = I a) ∧ J 12 16 = I 12 16
theorem FrB_tr {I J K : Nat → Int → Int} (h : FrB I J) (h2 : FrB J K) : FrB I K := ⟨fun a a0 a1 => (h2.1 a a0 a1).trans (h.1 a a0 a1), h2.2.trans h.2⟩
/-- the class's state behind a line -/
def bCl (I : Nat → Int → Int) (B : Int → Int) (n : Int) (R : bR) (J : Nat → Int → Int) : Prop := Tx J B n R.2.1 ∧ Rp J 12 R.2.2 ∧ FrB I J
section
variable {G : jzG} {d : Nat} {sh : List (Nat × Nat)} {I : Nat → Int → Int} {F : Nat → Int → Option Nat} {B : Int → Int} {n q : Int} {w : Int → Int}
theorem Rp_154 {J : Nat → Int → Int} (h : Rp I 12 w) (hf : Fr1 154 I J) : Rp J 12 w := Rp_fr h (fun a a0 a1 => hf a (by omega))
theorem FrB_154 {J : Nat → Int → Int} (hf : Fr1 154 I J) : FrB I J := ⟨fun a _ h => hf a h, by rw [hf 12 (by decide)]⟩
theorem Tx_v {f lo hi : Int} (hT : Tx I B n q) (hf : f ≤ 7) (h : vNm B n q f lo hi) : I 154 6 = tV B n q := by
  have h1 := hT.2.2.2.2.2.1 h.1
  have h2 := h.2.1
  rw [h1, show min 7 (tkE B n q - q) = tkE B n q - q by omega]
theorem sb_isPerson (hsh : ShOK sh) (h12 : StAt sh F 12) (hT : Tx I B n q) (hR : Rp I 12 w) : jS G (d + 1) mX0_isPerson [jR (some 154), jR (some 12)] (sh, I, F) 0 0 (rI (if vPn B n w q then 1 else 0) (sh, I, F)) := by
  obtain ⟨g0, -⟩ := id h12
  have r0 := hR.1
  have r1 := hR.2.1
  refine jS_go [some (jR (some 154)), some (jR (some 12))] (by decide +kernel) rfl (by simp [jone]) (Nat.le_of_ble_eq_true rfl) rfl (fun hok => ?_)
  refine j_aload_n dX0_isPerson_0 rfl ?_
  refine j_iconst dX0_isPerson_1 ?_
  refine j_iconst dX0_isPerson_2 ?_
  refine j_aload_n dX0_isPerson_3 rfl ?_
  refine r_getIE dX0_isPerson_4 flX0_55 (by first | assumption | exact hsh _ _ rfl) r0 (fun b_4 => ?_)
  refine j_iconst dX0_isPerson_7 ?_
  refine j_isub dX0_isPerson_8 ?_
  refine r_cv3I dX0_isPerson_9 cvX0_69 (by decide) (by first | assumption | exact hsh _ _ rfl) (Nat.le_of_ble_eq_true rfl) (Nat.le_of_eq (Nat.zero_add _)) (Nat.le_of_eq (Nat.zero_add _)) (st_isNumber hsh hT (by decide) (by decide) (by omega)) ?_
  refine j_zret dX0_isPerson_12 rfl (by split <;> omega) ?_
  exact rI_of rfl rfl
theorem sb_readSetting (hsh : ShOK sh) (hfx : FxOK F) (h12 : StAt sh F 12) (hT : Tx I B n q) (hR : Rp I 12 w) {c : Int} (hc : (c = 4 ∧ vWd B n q 9) ∨ (c = 5 ∧ vWd B n q 10) ∨ (c = 6 ∧ vWd B n q 11) ∨ (c = 7 ∧ vWd B n q 12)) : jS G (d + 6) mX0_readSetting [jR (some 154), jR (some 12)] (sh, I, F) 0 0 (rEI (bSet B n w q c).1 sh F (bCl I B n (bSet B n w q c))) := by
  obtain ⟨g0, -⟩ := id h12
  have w9 := st_isWord (G := G) (d := d + 1) (F := F) hsh hfx hT (t := 9) (by decide)
  have w10 := st_isWord (G := G) (d := d + 1) (F := F) hsh hfx hT (t := 10) (by decide)
  have w11 := st_isWord (G := G) (d := d + 1) (F := F) hsh hfx hT (t := 11) (by decide)
  have w12 := st_isWord (G := G) (d := d + 1) (F := F) hsh hfx hT (t := 12) (by decide)
  refine jS_go [some (jR (some 154)), some (jR (some 12)), none, none, none, none] (by decide +kernel) rfl (by simp [jone]) (Nat.le_of_ble_eq_true rfl) rfl (fun hok => ?_)
  generalize hQ : rEI (bSet B n w q c).1 sh F (bCl I B n (bSet B n w q c)) = Q9
  have mst : ∀ (J : Nat → Int → Int), Tx J B n (tkN B n q) → Rp J 12 w → jS G (d + 5) mX10_isNumber [jR (some 154), jI 5, jI 0, jI (bMost c)] (sh, J, F) 0 0 (rI (if vNm B n (tkN B n q) 5 0 (bMost c) then 1 else 0) (sh, J, F)) := fun J hTJ _ => st_isNumber hsh hTJ (by decide) (by decide) (by show jin (ite _ _ _); split; decide; split <;> decide)
  have good : vNm B n (tkN B n q) 5 0 (bMost c) → bSet B n w q c = (1, tkN B n (tkN B n q), wup w c (tV B n (tkN B n q))) := fun h => if_pos h
  have bad : ¬ vNm B n (tkN B n q) 5 0 (bMost c) → bSet B n w q c = (0, tkN B n q, w) := fun h => if_neg h
  have fin : ∀ (J : Nat → Int → Int) (k : Int), vNm B n (tkN B n q) 5 0 (bMost c) → ((k = 9 ∧ c = 4) ∨ (k = 10 ∧ c = 5) ∨ (k = 11 ∧ c = 6) ∨ (k = 12 ∧ c = 7)) → Tx J B n (tkN B n q) → Rp J 12 w → Fr1 154 I J → ∀ (L : List (Option jzV)), L[0]? = some (some (jR (some 154))) → jW G mX0_readSetting (d + 6) Q9 139 L [] (sh, jup J 12 k (tV B n (tkN B n q)), F) 0 0 := by
    intro J k hv hk hTJ hRJ hf L hL
    have hT2 : Tx (jup J 12 k (tV B n (tkN B n q))) B n (tkN B n q) := Tx_fr hTJ (jup_ne _ _ _ (by decide)) (jup_ne _ _ _ (by decide))
    have hR2 : Rp (jup J 12 k (tV B n (tkN B n q))) 12 (wup w c (tV B n (tkN B n q))) := Rp_fld hRJ (by omega)
    refine j_aload_n dX0_readSetting_139 hL ?_
    refine r_cv0EV dX0_readSetting_140 cvX0_61 (by decide) (hsh _ _ rfl) (Nat.le_of_ble_eq_true rfl) (Nat.le_of_eq (Nat.zero_add _)) (Nat.le_of_eq (Nat.zero_add _)) (st_next hsh hfx hT2) (fun K hK => ?_)
    refine j_iconst dX0_readSetting_143 ?_
    refine j_zret dX0_readSetting_144 rfl (by omega) ?_
    rw [← hQ, good hv]
    exact rEI_of rfl ⟨hK.1, Rp_154 hR2 hK.2, ⟨fun a a0 a1 => by rw [hK.2 a a1, jup_ne _ _ _ (by omega)]; exact hf a a1, by rw [hK.2 12 (by decide)]; (first | rw [jup_row _ _ _ (by omega)] | rw [jup_ne _ _ _ (by decide)]); rw [hf 12 (by decide)]⟩⟩
  have mid : ∀ (a b e : Int) (J : Nat → Int → Int), ((c = 4 ∧ a = 1) ∨ (c = 5 ∧ a = 0 ∧ b = 1) ∨ (c = 6 ∧ a = 0 ∧ b = 0 ∧ e = 1) ∨ (c = 7 ∧ a = 0 ∧ b = 0 ∧ e = 0)) → (0 ≤ b ∧ b ≤ 1 ∧ 0 ≤ e ∧ e ≤ 1) → Tx J B n (tkN B n q) → Rp J 12 w → Fr1 154 I J → jW G mX0_readSetting (d + 6) Q9 72 [some (jR (some 154)), some (jR (some 12)), some (jI a), some (jI b), some (jI e), some (jI (bMost c))] [] (sh, J, F) 0 0 := by
    intro a b e J habe hbe hTJ hRJ hf
    have sn := mst J hTJ hRJ
    by_cases hv : vNm B n (tkN B n q) 5 0 (bMost c)
    · have v6 := Tx_v hTJ (by decide) hv
      have hv2 := tV_in hv
      have hm : bMost c ≤ 99999 := by show ite _ _ _ ≤ _; split; decide; split <;> decide
      rw [if_pos hv] at sn
      refine j_aload_n dX0_readSetting_72 rfl ?_
      refine j_iconst dX0_readSetting_73 ?_
      refine j_iconst dX0_readSetting_74 ?_
      refine j_iload dX0_readSetting_75 rfl ?_
      refine r_cv3I dX0_readSetting_77 cvX0_69 (by decide) (by first | assumption | exact hsh _ _ rfl) (Nat.le_of_ble_eq_true rfl) (Nat.le_of_eq (Nat.zero_add _)) (Nat.le_of_eq (Nat.zero_add _)) (sn) ?_
      refine j_if_ne (tgt := 85) dX0_readSetting_80 rfl (by first | omega | (split <;> omega)) (fun c_80 => ?_) (fun c_80 => by exact absurd c_80 (by decide))
      refine j_iload_n dX0_readSetting_85 rfl ?_
      refine j_if_eq (tgt := 100) dX0_readSetting_86 rfl (by first | omega | (split <;> omega)) (fun c_86 => ?_) (fun c_86 => ?_)
      · refine j_iload_n dX0_readSetting_100 rfl ?_
        refine j_if_eq (tgt := 115) dX0_readSetting_101 rfl (by first | omega | (split <;> omega)) (fun c_101 => ?_) (fun c_101 => ?_)
        · refine j_iload dX0_readSetting_115 rfl ?_
          refine j_if_eq (tgt := 131) dX0_readSetting_117 rfl (by first | omega | (split <;> omega)) (fun c_117 => ?_) (fun c_117 => ?_)
          · refine j_aload_n dX0_readSetting_131 rfl ?_
            refine j_aload_n dX0_readSetting_132 rfl ?_
            refine r_getIE dX0_readSetting_133 flX0_73 (by first | assumption | exact hsh _ _ rfl) v6 (fun b_133 => ?_)
            refine r_putI dX0_readSetting_136 flX0_120 rfl (by first | assumption | exact hsh _ _ rfl) (by first | omega | (split <;> omega)) (fun q => by cases q) ?_
            exact fin J _ hv (by omega) hTJ hRJ hf _ rfl
          · refine j_aload_n dX0_readSetting_120 rfl ?_
            refine j_aload_n dX0_readSetting_121 rfl ?_
            refine r_getIE dX0_readSetting_122 flX0_73 (by first | assumption | exact hsh _ _ rfl) v6 (fun b_122 => ?_)
            refine r_putI dX0_readSetting_125 flX0_118 rfl (by first | assumption | exact hsh _ _ rfl) (by first | omega | (split <;> omega)) (fun q => by cases q) ?_
            refine j_goto (tgt := 139) dX0_readSetting_128 rfl ?_
            exact fin J _ hv (by omega) hTJ hRJ hf _ rfl
        · refine j_aload_n dX0_readSetting_104 rfl ?_
          refine j_aload_n dX0_readSetting_105 rfl ?_
          refine r_getIE dX0_readSetting_106 flX0_73 (by first | assumption | exact hsh _ _ rfl) v6 (fun b_106 => ?_)
          refine r_putI dX0_readSetting_109 flX0_116 rfl (by first | assumption | exact hsh _ _ rfl) (by first | omega | (split <;> omega)) (fun q => by cases q) ?_
          refine j_goto (tgt := 139) dX0_readSetting_112 rfl ?_
          exact fin J _ hv (by omega) hTJ hRJ hf _ rfl
      · refine j_aload_n dX0_readSetting_89 rfl ?_
        refine j_aload_n dX0_readSetting_90 rfl ?_
        refine r_getIE dX0_readSetting_91 flX0_73 (by first | assumption | exact hsh _ _ rfl) v6 (fun b_91 => ?_)
        refine r_putI dX0_readSetting_94 flX0_114 rfl (by first | assumption | exact hsh _ _ rfl) (by first | omega | (split <;> omega)) (fun q => by cases q) ?_
        refine j_goto (tgt := 139) dX0_readSetting_97 rfl ?_
        exact fin J _ hv (by omega) hTJ hRJ hf _ rfl
    · rw [if_neg hv] at sn
      refine j_aload_n dX0_readSetting_72 rfl ?_
      refine j_iconst dX0_readSetting_73 ?_
      refine j_iconst dX0_readSetting_74 ?_
      refine j_iload dX0_readSetting_75 rfl ?_
      refine r_cv3I dX0_readSetting_77 cvX0_69 (by decide) (by first | assumption | exact hsh _ _ rfl) (Nat.le_of_ble_eq_true rfl) (Nat.le_of_eq (Nat.zero_add _)) (Nat.le_of_eq (Nat.zero_add _)) (sn) ?_
      refine j_if_ne (tgt := 85) dX0_readSetting_80 rfl (by first | omega | (split <;> omega)) (fun c_80 => by exact absurd c_80 (by decide)) (fun c_80 => ?_)
      refine j_iconst dX0_readSetting_83 ?_
      refine j_zret dX0_readSetting_84 rfl (by omega) ?_
      rw [← hQ, bad hv]
      exact rEI_of rfl ⟨hTJ, hRJ, FrB_154 hf⟩
  rcases hc with ⟨rfl, h⟩ | ⟨rfl, h⟩ | ⟨rfl, h⟩ | ⟨rfl, h⟩
  · rw [if_pos h] at w9
    rw [if_neg (wd_one (by decide) (by decide) (by decide) h)] at w10 w11
    refine j_aload_n dX0_readSetting_0 rfl ?_
    refine j_ldcS dX0_readSetting_1 (t := 9) (by decide +kernel) ?_
    refine r_cv1I dX0_readSetting_3 cvX0_27 (by decide) (by first | assumption | exact hsh _ _ rfl) (Nat.le_of_ble_eq_true rfl) (Nat.le_of_eq (Nat.zero_add _)) (Nat.le_of_eq (Nat.zero_add _)) (w9) ?_
    refine j_istore_n dX0_readSetting_6 (by decide) ?_
    refine j_aload_n dX0_readSetting_7 rfl ?_
    refine j_ldcS dX0_readSetting_8 (t := 10) (by decide +kernel) ?_
    refine r_cv1I dX0_readSetting_10 cvX0_27 (by decide) (by first | assumption | exact hsh _ _ rfl) (Nat.le_of_ble_eq_true rfl) (Nat.le_of_eq (Nat.zero_add _)) (Nat.le_of_eq (Nat.zero_add _)) (w10) ?_
    refine j_istore_n dX0_readSetting_13 (by decide) ?_
    refine j_aload_n dX0_readSetting_14 rfl ?_
    refine j_ldcS dX0_readSetting_15 (t := 11) (by decide +kernel) ?_
    refine r_cv1I dX0_readSetting_17 cvX0_27 (by decide) (by first | assumption | exact hsh _ _ rfl) (Nat.le_of_ble_eq_true rfl) (Nat.le_of_eq (Nat.zero_add _)) (Nat.le_of_eq (Nat.zero_add _)) (w11) ?_
    refine j_istore dX0_readSetting_20 (by decide) ?_
    refine j_iload_n dX0_readSetting_22 rfl ?_
    refine j_if_ne (tgt := 46) dX0_readSetting_23 rfl (by first | omega | (split <;> omega)) (fun c_23 => ?_) (fun c_23 => by exact absurd (by decide) c_23)
    refine j_aload_n dX0_readSetting_46 rfl ?_
    refine r_cv0EV dX0_readSetting_47 cvX0_61 (by decide) (by first | assumption | exact hsh _ _ rfl) (Nat.le_of_ble_eq_true rfl) (Nat.le_of_eq (Nat.zero_add _)) (Nat.le_of_eq (Nat.zero_add _)) (st_next hsh hfx hT) (fun J hJ => ?_)
    refine j_iload_n dX0_readSetting_50 rfl ?_
    refine j_if_eq (tgt := 59) dX0_readSetting_51 rfl (by first | omega | (split <;> omega)) (fun c_51 => by exact absurd c_51 (by decide)) (fun c_51 => ?_)
    refine j_ldc (n := 99999) dX0_readSetting_54 kcX0_103 ?_
    refine j_goto (tgt := 70) dX0_readSetting_56 rfl ?_
    refine j_istore dX0_readSetting_70 (by decide) ?_
    exact mid 1 0 0 J (by omega) (by omega) hJ.1 (Rp_154 hR hJ.2) hJ.2
  · rw [if_pos h] at w10
    rw [if_neg (wd_one (by decide) (by decide) (by decide) h)] at w9 w11
    refine j_aload_n dX0_readSetting_0 rfl ?_
    refine j_ldcS dX0_readSetting_1 (t := 9) (by decide +kernel) ?_
    refine r_cv1I dX0_readSetting_3 cvX0_27 (by decide) (by first | assumption | exact hsh _ _ rfl) (Nat.le_of_ble_eq_true rfl) (Nat.le_of_eq (Nat.zero_add _)) (Nat.le_of_eq (Nat.zero_add _)) (w9) ?_
    refine j_istore_n dX0_readSetting_6 (by decide) ?_
    refine j_aload_n dX0_readSetting_7 rfl ?_
    refine j_ldcS dX0_readSetting_8 (t := 10) (by decide +kernel) ?_
    refine r_cv1I dX0_readSetting_10 cvX0_27 (by decide) (by first | assumption | exact hsh _ _ rfl) (Nat.le_of_ble_eq_true rfl) (Nat.le_of_eq (Nat.zero_add _)) (Nat.le_of_eq (Nat.zero_add _)) (w10) ?_
    refine j_istore_n dX0_readSetting_13 (by decide) ?_
    refine j_aload_n dX0_readSetting_14 rfl ?_
    refine j_ldcS dX0_readSetting_15 (t := 11) (by decide +kernel) ?_
    refine r_cv1I dX0_readSetting_17 cvX0_27 (by decide) (by first | assumption | exact hsh _ _ rfl) (Nat.le_of_ble_eq_true rfl) (Nat.le_of_eq (Nat.zero_add _)) (Nat.le_of_eq (Nat.zero_add _)) (w11) ?_
    refine j_istore dX0_readSetting_20 (by decide) ?_
    refine j_iload_n dX0_readSetting_22 rfl ?_
    refine j_if_ne (tgt := 46) dX0_readSetting_23 rfl (by first | omega | (split <;> omega)) (fun c_23 => by exact absurd rfl c_23) (fun c_23 => ?_)
    refine j_iload_n dX0_readSetting_26 rfl ?_
    refine j_if_ne (tgt := 46) dX0_readSetting_27 rfl (by first | omega | (split <;> omega)) (fun c_27 => ?_) (fun c_27 => by exact absurd (by decide) c_27)
    refine j_aload_n dX0_readSetting_46 rfl ?_
    refine r_cv0EV dX0_readSetting_47 cvX0_61 (by decide) (by first | assumption | exact hsh _ _ rfl) (Nat.le_of_ble_eq_true rfl) (Nat.le_of_eq (Nat.zero_add _)) (Nat.le_of_eq (Nat.zero_add _)) (st_next hsh hfx hT) (fun J hJ => ?_)
    refine j_iload_n dX0_readSetting_50 rfl ?_
    refine j_if_eq (tgt := 59) dX0_readSetting_51 rfl (by first | omega | (split <;> omega)) (fun c_51 => ?_) (fun c_51 => by exact absurd rfl c_51)
    refine j_iload_n dX0_readSetting_59 rfl ?_
    refine j_if_eq (tgt := 68) dX0_readSetting_60 rfl (by first | omega | (split <;> omega)) (fun c_60 => by exact absurd c_60 (by decide)) (fun c_60 => ?_)
    refine j_bipush dX0_readSetting_63 (by decide) ?_
    refine j_goto (tgt := 70) dX0_readSetting_65 rfl ?_
    refine j_istore dX0_readSetting_70 (by decide) ?_
    exact mid 0 1 0 J (by omega) (by omega) hJ.1 (Rp_154 hR hJ.2) hJ.2
  · rw [if_pos h] at w11
    rw [if_neg (wd_one (by decide) (by decide) (by decide) h)] at w9 w10
    refine j_aload_n dX0_readSetting_0 rfl ?_
    refine j_ldcS dX0_readSetting_1 (t := 9) (by decide +kernel) ?_
    refine r_cv1I dX0_readSetting_3 cvX0_27 (by decide) (by first | assumption | exact hsh _ _ rfl) (Nat.le_of_ble_eq_true rfl) (Nat.le_of_eq (Nat.zero_add _)) (Nat.le_of_eq (Nat.zero_add _)) (w9) ?_
    refine j_istore_n dX0_readSetting_6 (by decide) ?_
    refine j_aload_n dX0_readSetting_7 rfl ?_
    refine j_ldcS dX0_readSetting_8 (t := 10) (by decide +kernel) ?_
    refine r_cv1I dX0_readSetting_10 cvX0_27 (by decide) (by first | assumption | exact hsh _ _ rfl) (Nat.le_of_ble_eq_true rfl) (Nat.le_of_eq (Nat.zero_add _)) (Nat.le_of_eq (Nat.zero_add _)) (w10) ?_
    refine j_istore_n dX0_readSetting_13 (by decide) ?_
    refine j_aload_n dX0_readSetting_14 rfl ?_
    refine j_ldcS dX0_readSetting_15 (t := 11) (by decide +kernel) ?_
    refine r_cv1I dX0_readSetting_17 cvX0_27 (by decide) (by first | assumption | exact hsh _ _ rfl) (Nat.le_of_ble_eq_true rfl) (Nat.le_of_eq (Nat.zero_add _)) (Nat.le_of_eq (Nat.zero_add _)) (w11) ?_
    refine j_istore dX0_readSetting_20 (by decide) ?_
    refine j_iload_n dX0_readSetting_22 rfl ?_
    refine j_if_ne (tgt := 46) dX0_readSetting_23 rfl (by first | omega | (split <;> omega)) (fun c_23 => by exact absurd rfl c_23) (fun c_23 => ?_)
    refine j_iload_n dX0_readSetting_26 rfl ?_
    refine j_if_ne (tgt := 46) dX0_readSetting_27 rfl (by first | omega | (split <;> omega)) (fun c_27 => by exact absurd rfl c_27) (fun c_27 => ?_)
    refine j_iload dX0_readSetting_30 rfl ?_
    refine j_if_ne (tgt := 46) dX0_readSetting_32 rfl (by first | omega | (split <;> omega)) (fun c_32 => ?_) (fun c_32 => by exact absurd (by decide) c_32)
    refine j_aload_n dX0_readSetting_46 rfl ?_
    refine r_cv0EV dX0_readSetting_47 cvX0_61 (by decide) (by first | assumption | exact hsh _ _ rfl) (Nat.le_of_ble_eq_true rfl) (Nat.le_of_eq (Nat.zero_add _)) (Nat.le_of_eq (Nat.zero_add _)) (st_next hsh hfx hT) (fun J hJ => ?_)
    refine j_iload_n dX0_readSetting_50 rfl ?_
    refine j_if_eq (tgt := 59) dX0_readSetting_51 rfl (by first | omega | (split <;> omega)) (fun c_51 => ?_) (fun c_51 => by exact absurd rfl c_51)
    refine j_iload_n dX0_readSetting_59 rfl ?_
    refine j_if_eq (tgt := 68) dX0_readSetting_60 rfl (by first | omega | (split <;> omega)) (fun c_60 => ?_) (fun c_60 => by exact absurd rfl c_60)
    refine j_bipush dX0_readSetting_68 (by decide) ?_
    refine j_istore dX0_readSetting_70 (by decide) ?_
    exact mid 0 0 1 J (by omega) (by omega) hJ.1 (Rp_154 hR hJ.2) hJ.2
  · rw [if_pos h] at w12
    rw [if_neg (wd_one (by decide) (by decide) (by decide) h)] at w9 w10 w11
    refine j_aload_n dX0_readSetting_0 rfl ?_
    refine j_ldcS dX0_readSetting_1 (t := 9) (by decide +kernel) ?_
    refine r_cv1I dX0_readSetting_3 cvX0_27 (by decide) (by first | assumption | exact hsh _ _ rfl) (Nat.le_of_ble_eq_true rfl) (Nat.le_of_eq (Nat.zero_add _)) (Nat.le_of_eq (Nat.zero_add _)) (w9) ?_
    refine j_istore_n dX0_readSetting_6 (by decide) ?_
    refine j_aload_n dX0_readSetting_7 rfl ?_
    refine j_ldcS dX0_readSetting_8 (t := 10) (by decide +kernel) ?_
    refine r_cv1I dX0_readSetting_10 cvX0_27 (by decide) (by first | assumption | exact hsh _ _ rfl) (Nat.le_of_ble_eq_true rfl) (Nat.le_of_eq (Nat.zero_add _)) (Nat.le_of_eq (Nat.zero_add _)) (w10) ?_
    refine j_istore_n dX0_readSetting_13 (by decide) ?_
    refine j_aload_n dX0_readSetting_14 rfl ?_
    refine j_ldcS dX0_readSetting_15 (t := 11) (by decide +kernel) ?_
    refine r_cv1I dX0_readSetting_17 cvX0_27 (by decide) (by first | assumption | exact hsh _ _ rfl) (Nat.le_of_ble_eq_true rfl) (Nat.le_of_eq (Nat.zero_add _)) (Nat.le_of_eq (Nat.zero_add _)) (w11) ?_
    refine j_istore dX0_readSetting_20 (by decide) ?_
    refine j_iload_n dX0_readSetting_22 rfl ?_
    refine j_if_ne (tgt := 46) dX0_readSetting_23 rfl (by first | omega | (split <;> omega)) (fun c_23 => by exact absurd rfl c_23) (fun c_23 => ?_)
    refine j_iload_n dX0_readSetting_26 rfl ?_
    refine j_if_ne (tgt := 46) dX0_readSetting_27 rfl (by first | omega | (split <;> omega)) (fun c_27 => by exact absurd rfl c_27) (fun c_27 => ?_)
    refine j_iload dX0_readSetting_30 rfl ?_
    refine j_if_ne (tgt := 46) dX0_readSetting_32 rfl (by first | omega | (split <;> omega)) (fun c_32 => by exact absurd rfl c_32) (fun c_32 => ?_)
    refine j_aload_n dX0_readSetting_35 rfl ?_
    refine j_ldcS dX0_readSetting_36 (t := 12) (by decide +kernel) ?_
    refine r_cv1I dX0_readSetting_38 cvX0_27 (by decide) (by first | assumption | exact hsh _ _ rfl) (Nat.le_of_ble_eq_true rfl) (Nat.le_of_eq (Nat.zero_add _)) (Nat.le_of_eq (Nat.zero_add _)) (w12) ?_
    refine j_if_ne (tgt := 46) dX0_readSetting_41 rfl (by first | omega | (split <;> omega)) (fun c_41 => ?_) (fun c_41 => by exact absurd c_41 (by decide))
    refine j_aload_n dX0_readSetting_46 rfl ?_
    refine r_cv0EV dX0_readSetting_47 cvX0_61 (by decide) (by first | assumption | exact hsh _ _ rfl) (Nat.le_of_ble_eq_true rfl) (Nat.le_of_eq (Nat.zero_add _)) (Nat.le_of_eq (Nat.zero_add _)) (st_next hsh hfx hT) (fun J hJ => ?_)
    refine j_iload_n dX0_readSetting_50 rfl ?_
    refine j_if_eq (tgt := 59) dX0_readSetting_51 rfl (by first | omega | (split <;> omega)) (fun c_51 => ?_) (fun c_51 => by exact absurd rfl c_51)
    refine j_iload_n dX0_readSetting_59 rfl ?_
    refine j_if_eq (tgt := 68) dX0_readSetting_60 rfl (by first | omega | (split <;> omega)) (fun c_60 => ?_) (fun c_60 => by exact absurd rfl c_60)
    refine j_bipush dX0_readSetting_68 (by decide) ?_
    refine j_istore dX0_readSetting_70 (by decide) ?_
    exact mid 0 0 0 J (by omega) (by omega) hJ.1 (Rp_154 hR hJ.2) hJ.2
theorem sb_readSetting0 (hsh : ShOK sh) (hfx : FxOK F) (hT : Tx I B n q) (h9 : ¬ vWd B n q 9) (h10 : ¬ vWd B n q 10) (h11 : ¬ vWd B n q 11) (h12 : ¬ vWd B n q 12) : jS G (d + 6) mX0_readSetting [jR (some 154), jR (some 12)] (sh, I, F) 0 0 (rI 0 (sh, I, F)) := by
  have w9 := st_isWord (G := G) (d := d + 1) (F := F) hsh hfx hT (t := 9) (by decide)
  have w10 := st_isWord (G := G) (d := d + 1) (F := F) hsh hfx hT (t := 10) (by decide)
  have w11 := st_isWord (G := G) (d := d + 1) (F := F) hsh hfx hT (t := 11) (by decide)
  have w12 := st_isWord (G := G) (d := d + 1) (F := F) hsh hfx hT (t := 12) (by decide)
  rw [if_neg h9] at w9
  rw [if_neg h10] at w10
  rw [if_neg h11] at w11
  rw [if_neg h12] at w12
  refine jS_go [some (jR (some 154)), some (jR (some 12)), none, none, none, none] (by decide +kernel) rfl (by simp [jone]) (Nat.le_of_ble_eq_true rfl) rfl (fun hok => ?_)
  refine j_aload_n dX0_readSetting_0 rfl ?_
  refine j_ldcS dX0_readSetting_1 (t := 9) (by decide +kernel) ?_
  refine r_cv1I dX0_readSetting_3 cvX0_27 (by decide) (by first | assumption | exact hsh _ _ rfl) (Nat.le_of_ble_eq_true rfl) (Nat.le_of_eq (Nat.zero_add _)) (Nat.le_of_eq (Nat.zero_add _)) (w9) ?_
  refine j_istore_n dX0_readSetting_6 (by decide) ?_
  refine j_aload_n dX0_readSetting_7 rfl ?_
  refine j_ldcS dX0_readSetting_8 (t := 10) (by decide +kernel) ?_
  refine r_cv1I dX0_readSetting_10 cvX0_27 (by decide) (by first | assumption | exact hsh _ _ rfl) (Nat.le_of_ble_eq_true rfl) (Nat.le_of_eq (Nat.zero_add _)) (Nat.le_of_eq (Nat.zero_add _)) (w10) ?_
  refine j_istore_n dX0_readSetting_13 (by decide) ?_
  refine j_aload_n dX0_readSetting_14 rfl ?_
  refine j_ldcS dX0_readSetting_15 (t := 11) (by decide +kernel) ?_
  refine r_cv1I dX0_readSetting_17 cvX0_27 (by decide) (by first | assumption | exact hsh _ _ rfl) (Nat.le_of_ble_eq_true rfl) (Nat.le_of_eq (Nat.zero_add _)) (Nat.le_of_eq (Nat.zero_add _)) (w11) ?_
  refine j_istore dX0_readSetting_20 (by decide) ?_
  refine j_iload_n dX0_readSetting_22 rfl ?_
  refine j_if_ne (tgt := 46) dX0_readSetting_23 rfl (by first | omega | (split <;> omega)) (fun c_23 => by exact absurd rfl c_23) (fun c_23 => ?_)
  refine j_iload_n dX0_readSetting_26 rfl ?_
  refine j_if_ne (tgt := 46) dX0_readSetting_27 rfl (by first | omega | (split <;> omega)) (fun c_27 => by exact absurd rfl c_27) (fun c_27 => ?_)
  refine j_iload dX0_readSetting_30 rfl ?_
  refine j_if_ne (tgt := 46) dX0_readSetting_32 rfl (by first | omega | (split <;> omega)) (fun c_32 => by exact absurd rfl c_32) (fun c_32 => ?_)
  refine j_aload_n dX0_readSetting_35 rfl ?_
  refine j_ldcS dX0_readSetting_36 (t := 12) (by decide +kernel) ?_
  refine r_cv1I dX0_readSetting_38 cvX0_27 (by decide) (by first | assumption | exact hsh _ _ rfl) (Nat.le_of_ble_eq_true rfl) (Nat.le_of_eq (Nat.zero_add _)) (Nat.le_of_eq (Nat.zero_add _)) (w12) ?_
  refine j_if_ne (tgt := 46) dX0_readSetting_41 rfl (by first | omega | (split <;> omega)) (fun c_41 => by exact absurd c_41 (by decide)) (fun c_41 => ?_)
  refine j_iconst dX0_readSetting_44 ?_
  refine j_zret dX0_readSetting_45 rfl (by omega) ?_
  exact rI_of rfl rfl
theorem sb_readOne (hsh : ShOK sh) (hfx : FxOK F) (h12 : StAt sh F 12) (hT : Tx I B n q) (hR : Rp I 12 w) (hA : WfA w) {c : Int} (hc : (c = 1 ∧ vWd B n q 6) ∨ (c = 2 ∧ vWd B n q 7) ∨ (c = 3 ∧ vWd B n q 8)) : jS G (d + 6) mX0_readOne [jR (some 154), jR (some 12)] (sh, I, F) 0 0 (rEI (bOne B n w q c).1 sh F (bCl I B n (bOne B n w q c))) := by
  obtain ⟨g0, g1, g2, g3, g4, g5, g6, g7, g8, g9, e1, e2, e3, e4, e5, e6, e7, e8, e9⟩ := id h12
  have w7 := st_isWord (G := G) (d := d + 1) (F := F) hsh hfx hT (t := 7) (by decide)
  have w8 := st_isWord (G := G) (d := d + 1) (F := F) hsh hfx hT (t := 8) (by decide)
  have gw := hR.2.1
  refine jS_go [some (jR (some 154)), some (jR (some 12)), none, none, none] (by decide +kernel) rfl (by simp [jone]) (Nat.le_of_ble_eq_true rfl) rfl (fun hok => ?_)
  generalize hQ : rEI (bOne B n w q c).1 sh F (bCl I B n (bOne B n w q c)) = Q9
  have mid : ∀ (a b : Int), ((c = 3 ∧ a = 1 ∧ b = 0) ∨ (c = 2 ∧ a = 0 ∧ b = 1) ∨ (c = 1 ∧ a = 0 ∧ b = 0)) → jW G mX0_readOne (d + 6) Q9 14 [some (jR (some 154)), some (jR (some 12)), some (jI a), some (jI b), none] [] (sh, I, F) 0 0 := by
    intro a b hab
    have sP := fun (J : Nat → Int → Int) (hJ : Tx J B n (tkN B n q) ∧ Fr1 154 I J) => sb_isPerson (G := G) (d := d + 4) (F := F) hsh h12 hJ.1 (Rp_154 hR hJ.2)
    by_cases hv : vPn B n w (tkN B n q)
    · have pv := vPn_in hv
      rw [if_pos hv] at sP
      have v6 := fun (J : Nat → Int → Int) (hJ : Tx J B n (tkN B n q) ∧ Fr1 154 I J) => Tx_v hJ.1 (by decide) hv
      obtain ⟨p, hp⟩ : ∃ p, tV B n (tkN B n q) = p := ⟨_, rfl⟩
      rw [hp] at pv v6
      have ha := hA p pv.1 pv.2
      rcases hab with ⟨rfl, rfl, rfl⟩ | ⟨rfl, rfl, rfl⟩ | ⟨rfl, rfl, rfl⟩
      · have hb : bOne B n w q 3 = (1, tkN B n (tkN B n q), wup w (12 + 13 * p + 3) 1) := by unfold bOne; rw [if_pos hv, if_pos rfl, hp]
        rw [hb] at hQ
        refine j_aload_n dX0_readOne_14 rfl ?_
        refine r_cv0EV dX0_readOne_15 cvX0_61 (by decide) (by first | assumption | exact hsh _ _ rfl) (Nat.le_of_ble_eq_true rfl) (Nat.le_of_eq (Nat.zero_add _)) (Nat.le_of_eq (Nat.zero_add _)) (st_next hsh hfx hT) (fun J hJ => ?_)
        refine j_aload_n dX0_readOne_18 rfl ?_
        refine j_aload_n dX0_readOne_19 rfl ?_
        refine r_cs2I dX0_readOne_20 csX0_93 (Nat.le_of_ble_eq_true rfl) (Nat.le_of_eq (Nat.zero_add _)) (Nat.le_of_eq (Nat.zero_add _)) (sP J hJ) ?_
        refine j_if_ne (tgt := 28) dX0_readOne_23 rfl (by first | omega | (split <;> omega)) (fun c_23 => ?_) (fun c_23 => by exact absurd c_23 (by decide))
        refine j_aload_n dX0_readOne_28 rfl ?_
        refine r_getIE dX0_readOne_29 flX0_73 (by first | assumption | exact hsh _ _ rfl) (v6 J hJ) (fun b_29 => ?_)
        refine j_istore dX0_readOne_32 (by decide) ?_
        refine j_aload_n dX0_readOne_34 rfl ?_
        refine r_cv0EV dX0_readOne_35 cvX0_61 (by decide) (by first | assumption | exact hsh _ _ rfl) (Nat.le_of_ble_eq_true rfl) (Nat.le_of_eq (Nat.zero_add _)) (Nat.le_of_eq (Nat.zero_add _)) (st_next hsh hfx hJ.1) (fun K hK => ?_)
        have hRK := Rp_154 (Rp_154 hR hJ.2) hK.2
        have rA := hRK.2.2.2.2.1
        refine j_iload_n dX0_readOne_38 rfl ?_
        refine j_if_eq (tgt := 59) dX0_readOne_39 rfl (by first | omega | (split <;> omega)) (fun c_39 => by exact absurd c_39 (by decide)) (fun c_39 => ?_)
        refine j_aload_n dX0_readOne_42 rfl ?_
        refine j_dup dX0_readOne_43 trivial ?_
        refine r_getIE dX0_readOne_44 flX0_90 (by first | assumption | exact hsh _ _ rfl) rA (fun b_44 => ?_)
        refine j_iconst dX0_readOne_47 ?_
        refine j_iload dX0_readOne_48 rfl ?_
        refine r_ishl dX0_readOne_50 (fun b_50 => ?_)
        refine j_iconst dX0_readOne_51 ?_
        refine r_ixor dX0_readOne_52 (fun b_52 => ?_)
        refine r_iand dX0_readOne_53 (fun b_53 => ?_)
        refine r_putI dX0_readOne_54 flX0_90 rfl (by first | assumption | exact hsh _ _ rfl) (by first | omega | (split <;> omega)) (fun q => by cases q) ?_
        refine j_iconst dX0_readOne_57 ?_
        refine j_zret dX0_readOne_58 rfl (by omega) ?_
        rw [← hQ]
        exact rEI_of rfl ⟨Tx_fr hK.1 (jup_ne _ _ _ (by decide)) (jup_ne _ _ _ (by decide)), Rp_die hRK pv, ⟨fun a a0 a1 => by rw [jup_ne _ _ _ (by omega), hK.2 a a1, hJ.2 a a1], by (first | rw [jup_row _ _ _ (by omega)] | rw [jup_ne _ _ _ (by decide)]); rw [hK.2 12 (by decide)]; rw [hJ.2 12 (by decide)]⟩⟩
      · have sN := fun (K : Nat → Int → Int) (hK : Tx K B n (tkN B n (tkN B n q))) => st_isNumber (G := G) (d := d + 5) (F := F) hsh hK (f := 5) (lo := 0) (hi := aOf w p 1) (by decide) (by decide) (by omega)
        by_cases hv2 : vNm B n (tkN B n (tkN B n q)) 5 0 (aOf w p 1)
        · have hb : bOne B n w q 2 = (1, tkN B n (tkN B n (tkN B n q)), wup w (12 + 13 * p + 2) (tV B n (tkN B n (tkN B n q)))) := by unfold bOne; rw [if_pos hv, if_neg (by decide), if_pos (by rw [if_pos rfl, hp]; exact hv2), if_pos rfl, hp]
          rw [if_pos hv2] at sN
          have hx := tV_in hv2
          rw [hb] at hQ
          refine j_aload_n dX0_readOne_14 rfl ?_
          refine r_cv0EV dX0_readOne_15 cvX0_61 (by decide) (by first | assumption | exact hsh _ _ rfl) (Nat.le_of_ble_eq_true rfl) (Nat.le_of_eq (Nat.zero_add _)) (Nat.le_of_eq (Nat.zero_add _)) (st_next hsh hfx hT) (fun J hJ => ?_)
          refine j_aload_n dX0_readOne_18 rfl ?_
          refine j_aload_n dX0_readOne_19 rfl ?_
          refine r_cs2I dX0_readOne_20 csX0_93 (Nat.le_of_ble_eq_true rfl) (Nat.le_of_eq (Nat.zero_add _)) (Nat.le_of_eq (Nat.zero_add _)) (sP J hJ) ?_
          refine j_if_ne (tgt := 28) dX0_readOne_23 rfl (by first | omega | (split <;> omega)) (fun c_23 => ?_) (fun c_23 => by exact absurd c_23 (by decide))
          refine j_aload_n dX0_readOne_28 rfl ?_
          refine r_getIE dX0_readOne_29 flX0_73 (by first | assumption | exact hsh _ _ rfl) (v6 J hJ) (fun b_29 => ?_)
          refine j_istore dX0_readOne_32 (by decide) ?_
          refine j_aload_n dX0_readOne_34 rfl ?_
          refine r_cv0EV dX0_readOne_35 cvX0_61 (by decide) (by first | assumption | exact hsh _ _ rfl) (Nat.le_of_ble_eq_true rfl) (Nat.le_of_eq (Nat.zero_add _)) (Nat.le_of_eq (Nat.zero_add _)) (st_next hsh hfx hJ.1) (fun K hK => ?_)
          have hRK := Rp_154 (Rp_154 hR hJ.2) hK.2
          have q2 := (hRK.2.2.1 p pv.1 pv.2).2.1
          have v7 := Tx_v hK.1 (by decide) hv2
          refine j_iload_n dX0_readOne_38 rfl ?_
          refine j_if_eq (tgt := 59) dX0_readOne_39 rfl (by first | omega | (split <;> omega)) (fun c_39 => ?_) (fun c_39 => by exact absurd rfl c_39)
          refine j_aload_n dX0_readOne_59 rfl ?_
          refine j_iconst dX0_readOne_60 ?_
          refine j_iconst dX0_readOne_61 ?_
          refine j_iload_n dX0_readOne_62 rfl ?_
          refine j_if_eq (tgt := 76) dX0_readOne_63 rfl (by first | omega | (split <;> omega)) (fun c_63 => by exact absurd c_63 (by decide)) (fun c_63 => ?_)
          refine j_aload_n dX0_readOne_66 rfl ?_
          refine r_getS dX0_readOne_67 flX0_101 (by first | assumption | exact hsh _ _ rfl) (by assumption) ?_
          refine j_iload dX0_readOne_70 rfl ?_
          refine r_ialoadE dX0_readOne_72 (by first | assumption | exact hsh _ _ rfl) (by first | omega | (split <;> omega)) (by first | omega | (split <;> omega)) q2 (fun b_72 => ?_)
          refine j_goto (tgt := 78) dX0_readOne_73 rfl ?_
          refine r_cv3I dX0_readOne_78 cvX0_69 (by decide) (by first | assumption | exact hsh _ _ rfl) (Nat.le_of_ble_eq_true rfl) (Nat.le_of_eq (Nat.zero_add _)) (Nat.le_of_eq (Nat.zero_add _)) (sN K hK.1) ?_
          refine j_if_ne (tgt := 86) dX0_readOne_81 rfl (by first | omega | (split <;> omega)) (fun c_81 => ?_) (fun c_81 => by exact absurd c_81 (by decide))
          refine j_iload_n dX0_readOne_86 rfl ?_
          refine j_if_ne (tgt := 101) dX0_readOne_87 rfl (by first | omega | (split <;> omega)) (fun c_87 => ?_) (fun c_87 => by exact absurd (by decide) c_87)
          refine j_aload_n dX0_readOne_101 rfl ?_
          refine r_getS dX0_readOne_102 flX0_104 (by first | assumption | exact hsh _ _ rfl) (by assumption) ?_
          refine j_iload dX0_readOne_105 rfl ?_
          refine j_iload_n dX0_readOne_107 rfl ?_
          refine j_if_eq (tgt := 118) dX0_readOne_108 rfl (by first | omega | (split <;> omega)) (fun c_108 => by exact absurd c_108 (by decide)) (fun c_108 => ?_)
          refine j_aload_n dX0_readOne_111 rfl ?_
          refine r_getIE dX0_readOne_112 flX0_73 (by first | assumption | exact hsh _ _ rfl) v7 (fun b_112 => ?_)
          refine j_goto (tgt := 119) dX0_readOne_115 rfl ?_
          refine r_iastore dX0_readOne_119 (by first | assumption | exact hsh _ _ rfl) (by first | omega | (split <;> omega)) (by first | omega | (split <;> omega)) (by first | omega | (split <;> omega)) ?_
          have hT2 : Tx (jup K (12 + 4) p (tV B n (tkN B n (tkN B n q)))) B n (tkN B n (tkN B n q)) := Tx_fr hK.1 (jup_ne _ _ _ (by decide)) (jup_ne _ _ _ (by decide))
          refine j_aload_n dX0_readOne_120 rfl ?_
          refine r_cv0EV dX0_readOne_121 cvX0_61 (by decide) (by first | assumption | exact hsh _ _ rfl) (Nat.le_of_ble_eq_true rfl) (Nat.le_of_eq (Nat.zero_add _)) (Nat.le_of_eq (Nat.zero_add _)) (st_next hsh hfx hT2) (fun L hL => ?_)
          refine j_iconst dX0_readOne_124 ?_
          refine j_zret dX0_readOne_125 rfl (by omega) ?_
          rw [← hQ]
          exact rEI_of rfl ⟨hL.1, Rp_154 (Rp_one hRK pv (Or.inr (Or.inl ⟨rfl, rfl⟩))) hL.2, ⟨fun a a0 a1 => by rw [hL.2 a a1, jup_ne _ _ _ (by omega), hK.2 a a1, hJ.2 a a1], by rw [hL.2 12 (by decide)]; (first | rw [jup_row _ _ _ (by omega)] | rw [jup_ne _ _ _ (by decide)]); rw [hK.2 12 (by decide)]; rw [hJ.2 12 (by decide)]⟩⟩
        · have hb : bOne B n w q 2 = (0, tkN B n (tkN B n q), w) := by unfold bOne; rw [if_pos hv, if_neg (by decide), if_neg (by rw [if_pos rfl, hp]; exact hv2)]
          rw [if_neg hv2] at sN
          rw [hb] at hQ
          refine j_aload_n dX0_readOne_14 rfl ?_
          refine r_cv0EV dX0_readOne_15 cvX0_61 (by decide) (by first | assumption | exact hsh _ _ rfl) (Nat.le_of_ble_eq_true rfl) (Nat.le_of_eq (Nat.zero_add _)) (Nat.le_of_eq (Nat.zero_add _)) (st_next hsh hfx hT) (fun J hJ => ?_)
          refine j_aload_n dX0_readOne_18 rfl ?_
          refine j_aload_n dX0_readOne_19 rfl ?_
          refine r_cs2I dX0_readOne_20 csX0_93 (Nat.le_of_ble_eq_true rfl) (Nat.le_of_eq (Nat.zero_add _)) (Nat.le_of_eq (Nat.zero_add _)) (sP J hJ) ?_
          refine j_if_ne (tgt := 28) dX0_readOne_23 rfl (by first | omega | (split <;> omega)) (fun c_23 => ?_) (fun c_23 => by exact absurd c_23 (by decide))
          refine j_aload_n dX0_readOne_28 rfl ?_
          refine r_getIE dX0_readOne_29 flX0_73 (by first | assumption | exact hsh _ _ rfl) (v6 J hJ) (fun b_29 => ?_)
          refine j_istore dX0_readOne_32 (by decide) ?_
          refine j_aload_n dX0_readOne_34 rfl ?_
          refine r_cv0EV dX0_readOne_35 cvX0_61 (by decide) (by first | assumption | exact hsh _ _ rfl) (Nat.le_of_ble_eq_true rfl) (Nat.le_of_eq (Nat.zero_add _)) (Nat.le_of_eq (Nat.zero_add _)) (st_next hsh hfx hJ.1) (fun K hK => ?_)
          have hRK := Rp_154 (Rp_154 hR hJ.2) hK.2
          have q2 := (hRK.2.2.1 p pv.1 pv.2).2.1
          refine j_iload_n dX0_readOne_38 rfl ?_
          refine j_if_eq (tgt := 59) dX0_readOne_39 rfl (by first | omega | (split <;> omega)) (fun c_39 => ?_) (fun c_39 => by exact absurd rfl c_39)
          refine j_aload_n dX0_readOne_59 rfl ?_
          refine j_iconst dX0_readOne_60 ?_
          refine j_iconst dX0_readOne_61 ?_
          refine j_iload_n dX0_readOne_62 rfl ?_
          refine j_if_eq (tgt := 76) dX0_readOne_63 rfl (by first | omega | (split <;> omega)) (fun c_63 => by exact absurd c_63 (by decide)) (fun c_63 => ?_)
          refine j_aload_n dX0_readOne_66 rfl ?_
          refine r_getS dX0_readOne_67 flX0_101 (by first | assumption | exact hsh _ _ rfl) (by assumption) ?_
          refine j_iload dX0_readOne_70 rfl ?_
          refine r_ialoadE dX0_readOne_72 (by first | assumption | exact hsh _ _ rfl) (by first | omega | (split <;> omega)) (by first | omega | (split <;> omega)) q2 (fun b_72 => ?_)
          refine j_goto (tgt := 78) dX0_readOne_73 rfl ?_
          refine r_cv3I dX0_readOne_78 cvX0_69 (by decide) (by first | assumption | exact hsh _ _ rfl) (Nat.le_of_ble_eq_true rfl) (Nat.le_of_eq (Nat.zero_add _)) (Nat.le_of_eq (Nat.zero_add _)) (sN K hK.1) ?_
          refine j_if_ne (tgt := 86) dX0_readOne_81 rfl (by first | omega | (split <;> omega)) (fun c_81 => by exact absurd c_81 (by decide)) (fun c_81 => ?_)
          refine j_iconst dX0_readOne_84 ?_
          refine j_zret dX0_readOne_85 rfl (by omega) ?_
          rw [← hQ]
          exact rEI_of rfl ⟨hK.1, hRK, ⟨fun a a0 a1 => by rw [hK.2 a a1, hJ.2 a a1], by rw [hK.2 12 (by decide)]; rw [hJ.2 12 (by decide)]⟩⟩
      · have sN := fun (K : Nat → Int → Int) (hK : Tx K B n (tkN B n (tkN B n q))) => st_isNumber (G := G) (d := d + 5) (F := F) hsh hK (f := 5) (lo := 0) (hi := 99999) (by decide) (by decide) (by omega)
        by_cases hv2 : vNm B n (tkN B n (tkN B n q)) 5 0 99999
        · have hb : bOne B n w q 1 = (1, tkN B n (tkN B n (tkN B n q)), wup (wup w (12 + 13 * p + 1) (tV B n (tkN B n (tkN B n q)))) (12 + 13 * p + 2) 0) := by unfold bOne; rw [if_pos hv, if_neg (by decide), if_pos (by rw [if_neg (by decide)]; exact hv2), if_neg (by decide), hp]
          rw [if_pos hv2] at sN
          have hx := tV_in hv2
          rw [hb] at hQ
          obtain ⟨x, hx9⟩ : ∃ x, tV B n (tkN B n (tkN B n q)) = x := ⟨_, rfl⟩
          rw [hx9] at hx hQ
          refine j_aload_n dX0_readOne_14 rfl ?_
          refine r_cv0EV dX0_readOne_15 cvX0_61 (by decide) (by first | assumption | exact hsh _ _ rfl) (Nat.le_of_ble_eq_true rfl) (Nat.le_of_eq (Nat.zero_add _)) (Nat.le_of_eq (Nat.zero_add _)) (st_next hsh hfx hT) (fun J hJ => ?_)
          refine j_aload_n dX0_readOne_18 rfl ?_
          refine j_aload_n dX0_readOne_19 rfl ?_
          refine r_cs2I dX0_readOne_20 csX0_93 (Nat.le_of_ble_eq_true rfl) (Nat.le_of_eq (Nat.zero_add _)) (Nat.le_of_eq (Nat.zero_add _)) (sP J hJ) ?_
          refine j_if_ne (tgt := 28) dX0_readOne_23 rfl (by first | omega | (split <;> omega)) (fun c_23 => ?_) (fun c_23 => by exact absurd c_23 (by decide))
          refine j_aload_n dX0_readOne_28 rfl ?_
          refine r_getIE dX0_readOne_29 flX0_73 (by first | assumption | exact hsh _ _ rfl) (v6 J hJ) (fun b_29 => ?_)
          refine j_istore dX0_readOne_32 (by decide) ?_
          refine j_aload_n dX0_readOne_34 rfl ?_
          refine r_cv0EV dX0_readOne_35 cvX0_61 (by decide) (by first | assumption | exact hsh _ _ rfl) (Nat.le_of_ble_eq_true rfl) (Nat.le_of_eq (Nat.zero_add _)) (Nat.le_of_eq (Nat.zero_add _)) (st_next hsh hfx hJ.1) (fun K hK => ?_)
          have hRK := Rp_154 (Rp_154 hR hJ.2) hK.2
          have v7 := Tx_v hK.1 (by decide) hv2
          rw [hx9] at v7
          refine j_iload_n dX0_readOne_38 rfl ?_
          refine j_if_eq (tgt := 59) dX0_readOne_39 rfl (by first | omega | (split <;> omega)) (fun c_39 => ?_) (fun c_39 => by exact absurd rfl c_39)
          refine j_aload_n dX0_readOne_59 rfl ?_
          refine j_iconst dX0_readOne_60 ?_
          refine j_iconst dX0_readOne_61 ?_
          refine j_iload_n dX0_readOne_62 rfl ?_
          refine j_if_eq (tgt := 76) dX0_readOne_63 rfl (by first | omega | (split <;> omega)) (fun c_63 => ?_) (fun c_63 => by exact absurd rfl c_63)
          refine j_ldc (n := 99999) dX0_readOne_76 kcX0_103 ?_
          refine r_cv3I dX0_readOne_78 cvX0_69 (by decide) (by first | assumption | exact hsh _ _ rfl) (Nat.le_of_ble_eq_true rfl) (Nat.le_of_eq (Nat.zero_add _)) (Nat.le_of_eq (Nat.zero_add _)) (sN K hK.1) ?_
          refine j_if_ne (tgt := 86) dX0_readOne_81 rfl (by first | omega | (split <;> omega)) (fun c_81 => ?_) (fun c_81 => by exact absurd c_81 (by decide))
          refine j_iload_n dX0_readOne_86 rfl ?_
          refine j_if_ne (tgt := 101) dX0_readOne_87 rfl (by first | omega | (split <;> omega)) (fun c_87 => by exact absurd rfl c_87) (fun c_87 => ?_)
          refine j_aload_n dX0_readOne_90 rfl ?_
          refine r_getS dX0_readOne_91 flX0_101 (by first | assumption | exact hsh _ _ rfl) (by assumption) ?_
          refine j_iload dX0_readOne_94 rfl ?_
          refine j_aload_n dX0_readOne_96 rfl ?_
          refine r_getIE dX0_readOne_97 flX0_73 (by first | assumption | exact hsh _ _ rfl) v7 (fun b_97 => ?_)
          refine r_iastore dX0_readOne_100 (by first | assumption | exact hsh _ _ rfl) (by first | omega | (split <;> omega)) (by first | omega | (split <;> omega)) (by first | omega | (split <;> omega)) ?_
          refine j_aload_n dX0_readOne_101 rfl ?_
          refine r_getS dX0_readOne_102 flX0_104 (by first | assumption | exact hsh _ _ rfl) (by assumption) ?_
          refine j_iload dX0_readOne_105 rfl ?_
          refine j_iload_n dX0_readOne_107 rfl ?_
          refine j_if_eq (tgt := 118) dX0_readOne_108 rfl (by first | omega | (split <;> omega)) (fun c_108 => ?_) (fun c_108 => by exact absurd rfl c_108)
          refine j_iconst dX0_readOne_118 ?_
          refine r_iastore dX0_readOne_119 (by first | assumption | exact hsh _ _ rfl) (by first | omega | (split <;> omega)) (by first | omega | (split <;> omega)) (by first | omega | (split <;> omega)) ?_
          have hT2 : Tx (jup (jup K (12 + 3) p x) (12 + 4) p 0) B n (tkN B n (tkN B n q)) := Tx_fr hK.1 (by rw [jup_ne _ _ _ (by decide), jup_ne _ _ _ (by decide)]) (by rw [jup_ne _ _ _ (by decide), jup_ne _ _ _ (by decide)])
          refine j_aload_n dX0_readOne_120 rfl ?_
          refine r_cv0EV dX0_readOne_121 cvX0_61 (by decide) (by first | assumption | exact hsh _ _ rfl) (Nat.le_of_ble_eq_true rfl) (Nat.le_of_eq (Nat.zero_add _)) (Nat.le_of_eq (Nat.zero_add _)) (st_next hsh hfx hT2) (fun L hL => ?_)
          refine j_iconst dX0_readOne_124 ?_
          refine j_zret dX0_readOne_125 rfl (by omega) ?_
          rw [← hQ]
          have R1 := Rp_one (x := x) hRK pv (Or.inl ⟨rfl, rfl⟩)
          exact rEI_of rfl ⟨hL.1, Rp_154 (Rp_one R1 (by rw [show aPe (wup w (12 + 13 * p + 1) x) = aPe w from wup_ne _ _ (by omega)]; exact pv) (Or.inr (Or.inl ⟨rfl, rfl⟩))) hL.2, ⟨fun a a0 a1 => by rw [hL.2 a a1, jup_ne _ _ _ (by omega), jup_ne _ _ _ (by omega), hK.2 a a1, hJ.2 a a1], by rw [hL.2 12 (by decide)]; (first | rw [jup_row _ _ _ (by omega)] | rw [jup_ne _ _ _ (by decide)]); (first | rw [jup_row _ _ _ (by omega)] | rw [jup_ne _ _ _ (by decide)]); rw [hK.2 12 (by decide)]; rw [hJ.2 12 (by decide)]⟩⟩
        · have hb : bOne B n w q 1 = (0, tkN B n (tkN B n q), w) := by unfold bOne; rw [if_pos hv, if_neg (by decide), if_neg (by rw [if_neg (by decide)]; exact hv2)]
          rw [if_neg hv2] at sN
          rw [hb] at hQ
          refine j_aload_n dX0_readOne_14 rfl ?_
          refine r_cv0EV dX0_readOne_15 cvX0_61 (by decide) (by first | assumption | exact hsh _ _ rfl) (Nat.le_of_ble_eq_true rfl) (Nat.le_of_eq (Nat.zero_add _)) (Nat.le_of_eq (Nat.zero_add _)) (st_next hsh hfx hT) (fun J hJ => ?_)
          refine j_aload_n dX0_readOne_18 rfl ?_
          refine j_aload_n dX0_readOne_19 rfl ?_
          refine r_cs2I dX0_readOne_20 csX0_93 (Nat.le_of_ble_eq_true rfl) (Nat.le_of_eq (Nat.zero_add _)) (Nat.le_of_eq (Nat.zero_add _)) (sP J hJ) ?_
          refine j_if_ne (tgt := 28) dX0_readOne_23 rfl (by first | omega | (split <;> omega)) (fun c_23 => ?_) (fun c_23 => by exact absurd c_23 (by decide))
          refine j_aload_n dX0_readOne_28 rfl ?_
          refine r_getIE dX0_readOne_29 flX0_73 (by first | assumption | exact hsh _ _ rfl) (v6 J hJ) (fun b_29 => ?_)
          refine j_istore dX0_readOne_32 (by decide) ?_
          refine j_aload_n dX0_readOne_34 rfl ?_
          refine r_cv0EV dX0_readOne_35 cvX0_61 (by decide) (by first | assumption | exact hsh _ _ rfl) (Nat.le_of_ble_eq_true rfl) (Nat.le_of_eq (Nat.zero_add _)) (Nat.le_of_eq (Nat.zero_add _)) (st_next hsh hfx hJ.1) (fun K hK => ?_)
          have hRK := Rp_154 (Rp_154 hR hJ.2) hK.2
          refine j_iload_n dX0_readOne_38 rfl ?_
          refine j_if_eq (tgt := 59) dX0_readOne_39 rfl (by first | omega | (split <;> omega)) (fun c_39 => ?_) (fun c_39 => by exact absurd rfl c_39)
          refine j_aload_n dX0_readOne_59 rfl ?_
          refine j_iconst dX0_readOne_60 ?_
          refine j_iconst dX0_readOne_61 ?_
          refine j_iload_n dX0_readOne_62 rfl ?_
          refine j_if_eq (tgt := 76) dX0_readOne_63 rfl (by first | omega | (split <;> omega)) (fun c_63 => ?_) (fun c_63 => by exact absurd rfl c_63)
          refine j_ldc (n := 99999) dX0_readOne_76 kcX0_103 ?_
          refine r_cv3I dX0_readOne_78 cvX0_69 (by decide) (by first | assumption | exact hsh _ _ rfl) (Nat.le_of_ble_eq_true rfl) (Nat.le_of_eq (Nat.zero_add _)) (Nat.le_of_eq (Nat.zero_add _)) (sN K hK.1) ?_
          refine j_if_ne (tgt := 86) dX0_readOne_81 rfl (by first | omega | (split <;> omega)) (fun c_81 => by exact absurd c_81 (by decide)) (fun c_81 => ?_)
          refine j_iconst dX0_readOne_84 ?_
          refine j_zret dX0_readOne_85 rfl (by omega) ?_
          rw [← hQ]
          exact rEI_of rfl ⟨hK.1, hRK, ⟨fun a a0 a1 => by rw [hK.2 a a1, hJ.2 a a1], by rw [hK.2 12 (by decide)]; rw [hJ.2 12 (by decide)]⟩⟩
    · have hb : bOne B n w q c = (0, tkN B n q, w) := by unfold bOne; rw [if_neg hv]
      rw [if_neg hv] at sP
      rw [hb] at hQ
      refine j_aload_n dX0_readOne_14 rfl ?_
      refine r_cv0EV dX0_readOne_15 cvX0_61 (by decide) (by first | assumption | exact hsh _ _ rfl) (Nat.le_of_ble_eq_true rfl) (Nat.le_of_eq (Nat.zero_add _)) (Nat.le_of_eq (Nat.zero_add _)) (st_next hsh hfx hT) (fun J hJ => ?_)
      refine j_aload_n dX0_readOne_18 rfl ?_
      refine j_aload_n dX0_readOne_19 rfl ?_
      refine r_cs2I dX0_readOne_20 csX0_93 (Nat.le_of_ble_eq_true rfl) (Nat.le_of_eq (Nat.zero_add _)) (Nat.le_of_eq (Nat.zero_add _)) (sP J hJ) ?_
      refine j_if_ne (tgt := 28) dX0_readOne_23 rfl (by first | omega | (split <;> omega)) (fun c_23 => by exact absurd c_23 (by decide)) (fun c_23 => ?_)
      refine j_iconst dX0_readOne_26 ?_
      refine j_zret dX0_readOne_27 rfl (by omega) ?_
      rw [← hQ]
      exact rEI_of rfl ⟨hJ.1, Rp_154 hR hJ.2, FrB_154 hJ.2⟩
  rcases hc with ⟨rfl, h⟩ | ⟨rfl, h⟩ | ⟨rfl, h⟩
  · rw [if_neg (wd_one (by decide) (by decide) (by decide) h)] at w7 w8
    refine j_aload_n dX0_readOne_0 rfl ?_
    refine j_ldcS dX0_readOne_1 (t := 8) (by decide +kernel) ?_
    refine r_cv1I dX0_readOne_3 cvX0_27 (by decide) (by first | assumption | exact hsh _ _ rfl) (Nat.le_of_ble_eq_true rfl) (Nat.le_of_eq (Nat.zero_add _)) (Nat.le_of_eq (Nat.zero_add _)) (w8) ?_
    refine j_istore_n dX0_readOne_6 (by decide) ?_
    refine j_aload_n dX0_readOne_7 rfl ?_
    refine j_ldcS dX0_readOne_8 (t := 7) (by decide +kernel) ?_
    refine r_cv1I dX0_readOne_10 cvX0_27 (by decide) (by first | assumption | exact hsh _ _ rfl) (Nat.le_of_ble_eq_true rfl) (Nat.le_of_eq (Nat.zero_add _)) (Nat.le_of_eq (Nat.zero_add _)) (w7) ?_
    refine j_istore_n dX0_readOne_13 (by decide) ?_
    exact mid 0 0 (by omega)
  · rw [if_pos h] at w7
    rw [if_neg (wd_one (by decide) (by decide) (by decide) h)] at w8
    refine j_aload_n dX0_readOne_0 rfl ?_
    refine j_ldcS dX0_readOne_1 (t := 8) (by decide +kernel) ?_
    refine r_cv1I dX0_readOne_3 cvX0_27 (by decide) (by first | assumption | exact hsh _ _ rfl) (Nat.le_of_ble_eq_true rfl) (Nat.le_of_eq (Nat.zero_add _)) (Nat.le_of_eq (Nat.zero_add _)) (w8) ?_
    refine j_istore_n dX0_readOne_6 (by decide) ?_
    refine j_aload_n dX0_readOne_7 rfl ?_
    refine j_ldcS dX0_readOne_8 (t := 7) (by decide +kernel) ?_
    refine r_cv1I dX0_readOne_10 cvX0_27 (by decide) (by first | assumption | exact hsh _ _ rfl) (Nat.le_of_ble_eq_true rfl) (Nat.le_of_eq (Nat.zero_add _)) (Nat.le_of_eq (Nat.zero_add _)) (w7) ?_
    refine j_istore_n dX0_readOne_13 (by decide) ?_
    exact mid 0 1 (by omega)
  · rw [if_pos h] at w8
    rw [if_neg (wd_one (by decide) (by decide) (by decide) h)] at w7
    refine j_aload_n dX0_readOne_0 rfl ?_
    refine j_ldcS dX0_readOne_1 (t := 8) (by decide +kernel) ?_
    refine r_cv1I dX0_readOne_3 cvX0_27 (by decide) (by first | assumption | exact hsh _ _ rfl) (Nat.le_of_ble_eq_true rfl) (Nat.le_of_eq (Nat.zero_add _)) (Nat.le_of_eq (Nat.zero_add _)) (w8) ?_
    refine j_istore_n dX0_readOne_6 (by decide) ?_
    refine j_aload_n dX0_readOne_7 rfl ?_
    refine j_ldcS dX0_readOne_8 (t := 7) (by decide +kernel) ?_
    refine r_cv1I dX0_readOne_10 cvX0_27 (by decide) (by first | assumption | exact hsh _ _ rfl) (Nat.le_of_ble_eq_true rfl) (Nat.le_of_eq (Nat.zero_add _)) (Nat.le_of_eq (Nat.zero_add _)) (w7) ?_
    refine j_istore_n dX0_readOne_13 (by decide) ?_
    exact mid 1 0 (by omega)
end
