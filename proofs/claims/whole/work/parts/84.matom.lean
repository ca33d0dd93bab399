/-! THE MODEL READS ATOMS AND CONDITIONS -/
theorem Mt_13 {I : Nat → Int → Int} {B : Int → Int} {n p b x : Int} (h : Mt I B n p b) : Mt (jup I 170 13 x) B n p b := Mt_Q h ⟨fun a a0 _ => jup_ne _ _ _ a0, fun k k0 _ => jup_row _ _ _ k0⟩
theorem FrP_13 {I : Nat → Int → Int} {x : Int} : FrP I (jup I 170 13 x) := ⟨fun a a0 _ => jup_ne _ _ _ a0, fun k _ _ k2 _ => jup_row _ _ _ k2, fun k _ => by rw [jup_ne _ _ _ (by decide)]⟩
theorem Mp_13 {I : Nat → Int → Int} {B : Int → Int} {n q m x : Int} {w : Int → Int} (h : Mp I B n q m w) : Mp (jup I 170 13 x) B n q m w := by
  obtain ⟨⟨p, b, h1, h2⟩, h3, h4⟩ := h
  exact ⟨⟨p, b, Mt_13 h1, h2⟩, by rw [jup_ne _ _ _ (by decide)]; exact h3, by rw [jup_row _ _ _ (by decide)]; exact h4⟩
section
variable {G : jzG} {d : Nat} {sh : List (Nat × Nat)} {I : Nat → Int → Int} {F : Nat → Int → Option Nat} {B : Int → Int} {n q m : Int} {w : Int → Int} {A : Int → Int → (Int → Int) → pR}
/-- "wet", "sunday" -/
theorem ml_tag1 (hsh : ShOK sh) (hfx : FxOK F) (hM : Mp I B n q m w) (hm : 0 ≤ m ∧ m + 2 ≤ q) {st : Int} (h : (st = 5 ∧ vWd B n q 19) ∨ (st = 6 ∧ ¬ vWd B n q 19 ∧ vWd B n q 20)) : jS G (d + 5) mX12_readTag [jR (some 170)] (sh, I, F) 0 0 (rEI 1 sh F (pMd I B n (1, tkN B n q, m + 1, pE w m st 0))) := by
  have hq := Mp_q hM
  obtain ⟨p, b, hMt, hp⟩ := hM.1
  have sl := mt_lettersQ (G := G) (d := d + 2) (F := F) hsh hfx hMt hp
  have sW := fun (J : Nat → Int → Int) (h : Mt J B n (lx B n 97 122 q) q) (t : Nat) (ht : t < 33) => mt_isWordQ (G := G) (d := d) (F := F) hsh hfx h hq.1 (t := t) ht
  have eE : lx B n 97 122 q = tkE B n q := by
    rcases h with ⟨-, h⟩ | ⟨-, -, h⟩
    · exact wd_E (by decide) hq.1.2 h
    · exact wd_E (by decide) hq.1.2 h
  have hMpJ : ∀ J, Mt J B n (lx B n 97 122 q) q → FrX I J → Mp J B n (tkN B n q) m w := fun J h1 h2 => Mp_X hM h1 (by rw [eE]) h2
  refine jS_go [some (jR (some 170)), none] (by decide +kernel) rfl (by simp [jone]) (Nat.le_of_ble_eq_true rfl) rfl (fun hok => ?_)
  have fin : ∀ (J : Nat → Int → Int), (0 ≤ st ∧ st ≤ 6) → Mt J B n (lx B n 97 122 q) q → FrX I J → jW G mX12_readTag (d + 5) (rEI 1 sh F (pMd I B n (1, tkN B n q, m + 1, pE w m st 0))) 32 [some (jR (some 170)), none] [jI st] (sh, J, F) 0 0 := by
    intro J hst h1 h2
    have hMJ := hMpJ J h1 h2
    have sE := me_emits (G := G) (d := d + 4) (F := F) hsh hfx hMJ.2.1 hMJ.2.2 (by omega) (st := st) (a := 0) (by omega) (by decide)
    refine j_istore_n dX12_readTag_32 (by decide) ?_
    refine j_iload_n dX12_readTag_33 rfl ?_
    refine j_if_lt (tgt := 46) dX12_readTag_34 rfl (by first | omega | (split <;> omega)) (fun c_34 => by exact absurd c_34 (by omega)) (fun c_34 => ?_)
    refine j_aload_n dX12_readTag_37 rfl ?_
    refine j_iload_n dX12_readTag_38 rfl ?_
    refine j_iconst dX12_readTag_39 ?_
    refine r_cv2EV dX12_readTag_40 cvX12_185 (by decide) (by first | assumption | exact hsh _ _ rfl) (Nat.le_of_ble_eq_true rfl) (Nat.le_of_eq (Nat.zero_add _)) (Nat.le_of_eq (Nat.zero_add _)) (sE) (fun K hK => ?_)
    have hQ := em_Q hK hMJ.2.1 hm.1
    refine j_goto (tgt := 54) dX12_readTag_43 rfl ?_
    refine j_iload_n dX12_readTag_54 rfl ?_
    refine j_if_lt (tgt := 62) dX12_readTag_55 rfl (by first | omega | (split <;> omega)) (fun c_55 => by exact absurd c_55 (by omega)) (fun c_55 => ?_)
    refine j_iconst dX12_readTag_58 ?_
    refine j_goto (tgt := 63) dX12_readTag_59 rfl ?_
    refine j_zret dX12_readTag_63 rfl (by omega) ?_
    exact rEI_of rfl (pMd_1 (FrP_tr (FrP_X h2) hQ.2.1) (Mp_em hMJ hK) (by rw [hQ.2.2, h2.2 13 (by decide) (by decide)]))
  have s19 := fun J h => sW J h 19 (by decide)
  have s20 := fun J h => sW J h 20 (by decide)
  rcases h with ⟨rfl, h⟩ | ⟨rfl, h1, h2⟩
  · rw [if_pos h] at s19
    refine j_aload_n dX12_readTag_0 rfl ?_
    refine r_cv0EV dX12_readTag_1 cvX12_111 (by decide) (by first | assumption | exact hsh _ _ rfl) (Nat.le_of_ble_eq_true rfl) (Nat.le_of_eq (Nat.zero_add _)) (Nat.le_of_eq (Nat.zero_add _)) (sl) (fun J hJ => ?_)
    refine j_aload_n dX12_readTag_4 rfl ?_
    refine j_ldcS dX12_readTag_5 (t := 19) (by decide +kernel) ?_
    refine r_cv1I dX12_readTag_7 cvX12_114 (by decide) (by first | assumption | exact hsh _ _ rfl) (Nat.le_of_ble_eq_true rfl) (Nat.le_of_eq (Nat.zero_add _)) (Nat.le_of_eq (Nat.zero_add _)) (s19 J hJ.1) ?_
    refine j_if_eq (tgt := 17) dX12_readTag_10 rfl (by first | omega | (split <;> omega)) (fun c_10 => by exact absurd c_10 (by decide)) (fun c_10 => ?_)
    refine j_iconst dX12_readTag_13 ?_
    refine j_goto (tgt := 32) dX12_readTag_14 rfl ?_
    exact fin J (by decide) hJ.1 hJ.2
  · rw [if_neg h1] at s19
    rw [if_pos h2] at s20
    refine j_aload_n dX12_readTag_0 rfl ?_
    refine r_cv0EV dX12_readTag_1 cvX12_111 (by decide) (by first | assumption | exact hsh _ _ rfl) (Nat.le_of_ble_eq_true rfl) (Nat.le_of_eq (Nat.zero_add _)) (Nat.le_of_eq (Nat.zero_add _)) (sl) (fun J hJ => ?_)
    refine j_aload_n dX12_readTag_4 rfl ?_
    refine j_ldcS dX12_readTag_5 (t := 19) (by decide +kernel) ?_
    refine r_cv1I dX12_readTag_7 cvX12_114 (by decide) (by first | assumption | exact hsh _ _ rfl) (Nat.le_of_ble_eq_true rfl) (Nat.le_of_eq (Nat.zero_add _)) (Nat.le_of_eq (Nat.zero_add _)) (s19 J hJ.1) ?_
    refine j_if_eq (tgt := 17) dX12_readTag_10 rfl (by first | omega | (split <;> omega)) (fun c_10 => ?_) (fun c_10 => by exact absurd c_10 (by decide))
    refine j_aload_n dX12_readTag_17 rfl ?_
    refine j_ldcS dX12_readTag_18 (t := 20) (by decide +kernel) ?_
    refine r_cv1I dX12_readTag_20 cvX12_114 (by decide) (by first | assumption | exact hsh _ _ rfl) (Nat.le_of_ble_eq_true rfl) (Nat.le_of_eq (Nat.zero_add _)) (Nat.le_of_eq (Nat.zero_add _)) (s20 J hJ.1) ?_
    refine j_if_eq (tgt := 31) dX12_readTag_23 rfl (by first | omega | (split <;> omega)) (fun c_23 => by exact absurd c_23 (by decide)) (fun c_23 => ?_)
    refine j_bipush dX12_readTag_26 (by decide) ?_
    refine j_goto (tgt := 32) dX12_readTag_28 rfl ?_
    exact fin J (by decide) hJ.1 hJ.2
theorem ml_tag0 (hsh : ShOK sh) (hfx : FxOK F) (hM : Mp I B n q m w) (h1 : ¬ vWd B n q 19) (h2 : ¬ vWd B n q 20) : jS G (d + 5) mX12_readTag [jR (some 170)] (sh, I, F) 0 0 (rEI 0 sh F (fun J => Mp J B n q m w ∧ FrP I J ∧ J 170 13 = I 170 13)) := by
  have hq := Mp_q hM
  obtain ⟨p, b, hMt, hp⟩ := hM.1
  have h5 := hMt.2.2.2.2.1
  have hqq := lxB_q h5.2 hp
  have sl := mt_lettersQ (G := G) (d := d + 2) (F := F) hsh hfx hMt hp
  have sW := fun (J : Nat → Int → Int) (h : Mt J B n (lx B n 97 122 q) q) (t : Nat) (ht : t < 33) => mt_isWordQ (G := G) (d := d) (F := F) hsh hfx h hq.1 (t := t) ht
  have s19 := fun J h => sW J h 19 (by decide)
  have s20 := fun J h => sW J h 20 (by decide)
  rw [if_neg h1] at s19
  rw [if_neg h2] at s20
  refine jS_go [some (jR (some 170)), none] (by decide +kernel) rfl (by simp [jone]) (Nat.le_of_ble_eq_true rfl) rfl (fun hok => ?_)
  refine j_aload_n dX12_readTag_0 rfl ?_
  refine r_cv0EV dX12_readTag_1 cvX12_111 (by decide) (by first | assumption | exact hsh _ _ rfl) (Nat.le_of_ble_eq_true rfl) (Nat.le_of_eq (Nat.zero_add _)) (Nat.le_of_eq (Nat.zero_add _)) (sl) (fun J hJ => ?_)
  have j3 := hJ.1.2.2.1
  refine j_aload_n dX12_readTag_4 rfl ?_
  refine j_ldcS dX12_readTag_5 (t := 19) (by decide +kernel) ?_
  refine r_cv1I dX12_readTag_7 cvX12_114 (by decide) (by first | assumption | exact hsh _ _ rfl) (Nat.le_of_ble_eq_true rfl) (Nat.le_of_eq (Nat.zero_add _)) (Nat.le_of_eq (Nat.zero_add _)) (s19 J hJ.1) ?_
  refine j_if_eq (tgt := 17) dX12_readTag_10 rfl (by first | omega | (split <;> omega)) (fun c_10 => ?_) (fun c_10 => by exact absurd c_10 (by decide))
  refine j_aload_n dX12_readTag_17 rfl ?_
  refine j_ldcS dX12_readTag_18 (t := 20) (by decide +kernel) ?_
  refine r_cv1I dX12_readTag_20 cvX12_114 (by decide) (by first | assumption | exact hsh _ _ rfl) (Nat.le_of_ble_eq_true rfl) (Nat.le_of_eq (Nat.zero_add _)) (Nat.le_of_eq (Nat.zero_add _)) (s20 J hJ.1) ?_
  refine j_if_eq (tgt := 31) dX12_readTag_23 rfl (by first | omega | (split <;> omega)) (fun c_23 => ?_) (fun c_23 => by exact absurd c_23 (by decide))
  refine j_iconst dX12_readTag_31 ?_
  refine j_istore_n dX12_readTag_32 (by decide) ?_
  refine j_iload_n dX12_readTag_33 rfl ?_
  refine j_if_lt (tgt := 46) dX12_readTag_34 rfl (by first | omega | (split <;> omega)) (fun c_34 => ?_) (fun c_34 => by exact absurd (by decide) c_34)
  refine j_aload_n dX12_readTag_46 rfl ?_
  refine j_aload_n dX12_readTag_47 rfl ?_
  refine r_getIE dX12_readTag_48 flX12_96 (by first | assumption | exact hsh _ _ rfl) j3 (fun b_48 => ?_)
  refine r_putI dX12_readTag_51 flX12_86 rfl (by first | assumption | exact hsh _ _ rfl) (by first | omega | (split <;> omega)) (fun q => by cases q) ?_
  refine j_iload_n dX12_readTag_54 rfl ?_
  refine j_if_lt (tgt := 62) dX12_readTag_55 rfl (by first | omega | (split <;> omega)) (fun c_55 => ?_) (fun c_55 => by exact absurd (by decide) c_55)
  refine j_iconst dX12_readTag_62 ?_
  refine j_zret dX12_readTag_63 rfl (by omega) ?_
  have hf := FrX_up (v := q) hJ.2 (Or.inl rfl)
  exact rEI_of rfl ⟨Mp_X hM (Mt_10 hJ.1 hq.1) hqq hf, FrP_X hf, hf.2 13 (by decide) (by decide)⟩
/-- a sign, or none, at q -/
theorem ml_sign1 (hsh : ShOK sh) (hfx : FxOK F) (hM : Mp I B n q m w) {c : Int} (hc : 0 ≤ c ∧ c ≤ 127 ∧ ¬ isL c ∧ ¬ isD c) (h : vSg B n q c) : jS G (d + 2) mX12_sign [jR (some 170), jI c] (sh, I, F) 0 0 (rEI 1 sh F (fun J => (∃ p, Mt J B n p q) ∧ Mp J B n (tkN B n q) m w ∧ FrP I J ∧ J 170 13 = I 170 13)) := by
  obtain ⟨p, b, hMt, hp⟩ := hM.1
  have sS := mt_sign1 (G := G) (d := d) (F := F) hsh hfx hMt hc (by rw [hp]; exact h)
  rw [hp] at sS
  exact jS_mono sS (fun o h ⟨J, h1, h2, h3⟩ => ⟨J, h1, h2, ⟨_, h3.1⟩, Mp_X hM h3.1 rfl h3.2, FrP_X h3.2, h3.2.2 13 (by decide) (by decide)⟩)
theorem ml_sign0 (hsh : ShOK sh) (hfx : FxOK F) (hM : Mp I B n q m w) {c : Int} (hc : 0 ≤ c ∧ c ≤ 127 ∧ ¬ isL c ∧ ¬ isD c) (h : ¬ vSg B n q c) : jS G (d + 2) mX12_sign [jR (some 170), jI c] (sh, I, F) 0 0 (rEI 0 sh F (fun J => Mt J B n q q ∧ Mp J B n q m w ∧ FrP I J ∧ J 170 13 = I 170 13)) := by
  obtain ⟨p, b, hMt, hp⟩ := hM.1
  have h5 := hMt.2.2.2.2.1
  have hqq := lxB_q h5.2 hp
  have sS := mt_sign0 (G := G) (d := d) (F := F) hsh hfx hMt hc (by rw [hp]; exact h)
  rw [hp] at sS
  exact jS_mono sS (fun o h ⟨J, h1, h2, h3⟩ => ⟨J, h1, h2, h3.1, Mp_X hM h3.1 hqq h3.2, FrP_X h3.2, h3.2.2 13 (by decide) (by decide)⟩)
theorem ml_pass1 (hsh : ShOK sh) (hfx : FxOK F) (hM : Mp I B n q m w) {t : Nat} (ht : t < 33) (h : vWd B n q t) : jS G (d + 5) mX12_passes [jR (some 170), jX (t + 1)] (sh, I, F) 0 0 (rEI 1 sh F (fun J => (∃ p, Mt J B n p q) ∧ Mp J B n (tkN B n q) m w ∧ FrP I J ∧ J 170 13 = I 170 13)) := by
  obtain ⟨p, b, hMt, hp⟩ := hM.1
  have sS := mt_passes1 (G := G) (d := d) (F := F) hsh hfx hMt ht (by rw [hp]; exact h)
  rw [hp] at sS
  exact jS_mono sS (fun o h ⟨J, h1, h2, h3⟩ => ⟨J, h1, h2, ⟨_, h3.1⟩, Mp_X hM h3.1 rfl h3.2, FrP_X h3.2, h3.2.2 13 (by decide) (by decide)⟩)
theorem ml_pass0 (hsh : ShOK sh) (hfx : FxOK F) (hM : Mp I B n q m w) {t : Nat} (ht : t < 33) (h : ¬ vWd B n q t) : jS G (d + 5) mX12_passes [jR (some 170), jX (t + 1)] (sh, I, F) 0 0 (rEI 0 sh F (fun J => Mt J B n q q ∧ Mp J B n q m w ∧ FrP I J ∧ J 170 13 = I 170 13)) := by
  obtain ⟨p, b, hMt, hp⟩ := hM.1
  have h5 := hMt.2.2.2.2.1
  have hqq := lxB_q h5.2 hp
  have sS := mt_passes0 (G := G) (d := d) (F := F) hsh hfx hMt ht (by rw [hp]; exact h)
  rw [hp] at sS
  exact jS_mono sS (fun o h ⟨J, h1, h2, h3⟩ => ⟨J, h1, h2, h3.1, Mp_X hM h3.1 hqq h3.2, FrP_X h3.2, h3.2.2 13 (by decide) (by decide)⟩)
/-- atoms at a depth, in the model -/
abbrev mAs (G : jzG) (e : Nat) (sh : List (Nat × Nat)) (F : Nat → Int → Option Nat) (B : Int → Int) (n deep : Int) (A : Int → Int → (Int → Int) → pR) : Prop := ∀ (J : Nat → Int → Int) (q m : Int) (w : Int → Int), J 170 13 = deep → Mp J B n q m w → 0 ≤ m → m + 2 ≤ q → jS G e mX12_readAtom [jR (some 170)] (sh, J, F) 0 0 (rEI (A q m w).1 sh F (pMd J B n (A q m w)))
theorem ml_all {c : Nat} {deep : Int} (hsh : ShOK sh) (hfx : FxOK F) (hA : aGd n c A) (hS : mAs G (d + 7) sh F B n deep A) (h13 : I 170 13 = deep) (hM : Mp I B n q m w) (hm : 0 ≤ m ∧ m + 2 ≤ q) : jS G (d + 8) mX12_readAllOf [jR (some 170)] (sh, I, F) 0 0 (rEI (pAll B n A q m w).1 sh F (pMd I B n (pAll B n A q m w))) := by
  refine jS_go [some (jR (some 170))] (by decide +kernel) rfl (by simp [jone]) (Nat.le_of_ble_eq_true rfl) rfl (fun hok => ?_)
  have key : ∀ (u : Nat) (q m : Int) (w : Int → Int) (J : Nat → Int → Int), n - q < u → 0 ≤ m → m + 2 ≤ q → Mp J B n q m w → FrP I J → J 170 13 = I 170 13 → jW G mX12_readAllOf (d + 8) (rEI (pAllR B n A 401 q m w).1 sh F (pMd I B n (pAllR B n A 401 q m w))) 9 [some (jR (some 170))] [] (sh, J, F) 0 0 := by
    intro u
    induction u with
    | zero =>
      intro q m w J hu hm0 hmq hM hf h3
      have hq := Mp_q hM
      omega
    | succ u ih =>
      intro q m w J hu hm0 hmq hM hf h3
      have hq := Mp_q hM
      rw [pAllR_u hA (by omega) hq.1.2 hq.2]
      by_cases e : vWd B n q 23
      · rw [if_pos e]
        have ht := wd_s hq.1.2 e
        have sS := ml_pass1 (G := G) (d := d + 2) (F := F) hsh hfx hM (t := 23) (by decide) e
        have sP := fun (K : Nat → Int → Int) (h0 : K 170 13 = deep) (h : Mp K B n (tkN B n q) m w) => hS K _ _ _ h0 h hm0 (by omega)
        have hg := hA (tkN B n q) m w ht.2
        generalize A (tkN B n q) m w = S at *
        rcases hg with g | ⟨g1, g2, g3, g4, g5, -⟩
        · rw [pThen_f g.1, g.1]
          rw [g.1] at sP
          refine j_aload_n dX12_readAllOf_9 rfl ?_
          refine j_ldcS dX12_readAllOf_10 (t := 23) (by decide +kernel) ?_
          refine r_cv1EI dX12_readAllOf_12 cvX12_211 (by decide) (by first | assumption | exact hsh _ _ rfl) (Nat.le_of_ble_eq_true rfl) (Nat.le_of_eq (Nat.zero_add _)) (Nat.le_of_eq (Nat.zero_add _)) (sS) (fun K hK => ?_)
          refine j_if_eq (tgt := 37) dX12_readAllOf_15 rfl (by first | omega | (split <;> omega)) (fun c_15 => by exact absurd c_15 (by decide)) (fun c_15 => ?_)
          refine j_aload_n dX12_readAllOf_18 rfl ?_
          refine r_cv0EI dX12_readAllOf_19 cvX12_214 (by decide) (by first | assumption | exact hsh _ _ rfl) (Nat.le_of_ble_eq_true rfl) (Nat.le_of_eq (Nat.zero_add _)) (Nat.le_of_eq (Nat.zero_add _)) (sP K (by rw [hK.2.2.2, h3]; exact h13) hK.2.1) (fun P hP => ?_)
          refine j_if_ne (tgt := 27) dX12_readAllOf_22 rfl (by first | omega | (split <;> omega)) (fun c_22 => by exact absurd c_22 (by decide)) (fun c_22 => ?_)
          refine j_iconst dX12_readAllOf_25 ?_
          refine j_zret dX12_readAllOf_26 rfl (by omega) ?_
          exact rEI_of rfl (pMd_fr hP (FrP_tr hf hK.2.2.1) (by rw [hK.2.2.2]; exact h3))
        · rw [pThen_t g1]
          rw [g1] at sP
          have sE := fun (P : Nat → Int → Int) (h : Mp P B n S.2.1 S.2.2.1 S.2.2.2) => me_emits (G := G) (d := d + 7) (F := F) hsh hfx h.2.1 h.2.2 (by omega) (st := 12) (a := 0) (by decide) (by decide)
          refine j_aload_n dX12_readAllOf_9 rfl ?_
          refine j_ldcS dX12_readAllOf_10 (t := 23) (by decide +kernel) ?_
          refine r_cv1EI dX12_readAllOf_12 cvX12_211 (by decide) (by first | assumption | exact hsh _ _ rfl) (Nat.le_of_ble_eq_true rfl) (Nat.le_of_eq (Nat.zero_add _)) (Nat.le_of_eq (Nat.zero_add _)) (sS) (fun K hK => ?_)
          refine j_if_eq (tgt := 37) dX12_readAllOf_15 rfl (by first | omega | (split <;> omega)) (fun c_15 => by exact absurd c_15 (by decide)) (fun c_15 => ?_)
          refine j_aload_n dX12_readAllOf_18 rfl ?_
          refine r_cv0EI dX12_readAllOf_19 cvX12_214 (by decide) (by first | assumption | exact hsh _ _ rfl) (Nat.le_of_ble_eq_true rfl) (Nat.le_of_eq (Nat.zero_add _)) (Nat.le_of_eq (Nat.zero_add _)) (sP K (by rw [hK.2.2.2, h3]; exact h13) hK.2.1) (fun P hP => ?_)
          have hMP := hP.2.1 g1
          refine j_if_ne (tgt := 27) dX12_readAllOf_22 rfl (by first | omega | (split <;> omega)) (fun c_22 => ?_) (fun c_22 => by exact absurd c_22 (by decide))
          refine j_aload_n dX12_readAllOf_27 rfl ?_
          refine j_bipush dX12_readAllOf_28 (by decide) ?_
          refine j_iconst dX12_readAllOf_30 ?_
          refine r_cv2EV dX12_readAllOf_31 cvX12_185 (by decide) (by first | assumption | exact hsh _ _ rfl) (Nat.le_of_ble_eq_true rfl) (Nat.le_of_eq (Nat.zero_add _)) (Nat.le_of_eq (Nat.zero_add _)) (sE P hMP.1) (fun N hN => ?_)
          have hQ := em_Q hN hMP.1.2.1 (by omega)
          refine j_goto (tgt := 9) dX12_readAllOf_34 rfl ?_
          exact ih S.2.1 (S.2.2.1 + 1) _ N (by omega) (by omega) (by omega) (Mp_em hMP.1 hN) (FrP_tr (FrP_tr (FrP_tr hf hK.2.2.1) hP.1) hQ.2.1) (by rw [hQ.2.2, hMP.2, hK.2.2.2]; exact h3)
      · rw [if_neg e]
        have sS := ml_pass0 (G := G) (d := d + 2) (F := F) hsh hfx hM (t := 23) (by decide) e
        refine j_aload_n dX12_readAllOf_9 rfl ?_
        refine j_ldcS dX12_readAllOf_10 (t := 23) (by decide +kernel) ?_
        refine r_cv1EI dX12_readAllOf_12 cvX12_211 (by decide) (by first | assumption | exact hsh _ _ rfl) (Nat.le_of_ble_eq_true rfl) (Nat.le_of_eq (Nat.zero_add _)) (Nat.le_of_eq (Nat.zero_add _)) (sS) (fun K hK => ?_)
        refine j_if_eq (tgt := 37) dX12_readAllOf_15 rfl (by first | omega | (split <;> omega)) (fun c_15 => ?_) (fun c_15 => by exact absurd c_15 (by decide))
        refine j_iconst dX12_readAllOf_37 ?_
        refine j_zret dX12_readAllOf_38 rfl (by omega) ?_
        exact rEI_of rfl (pMd_1 (FrP_tr hf hK.2.2.1) hK.2.1 (by rw [hK.2.2.2]; exact h3))
  have hq := Mp_q hM
  have sP := hS I q m w h13 hM hm.1 hm.2
  have hg := hA q m w hq.1.2
  have hR : pAll B n A q m w = pThen (A q m w) (pAllR B n A 401) := rfl
  rw [hR]
  generalize A q m w = S at *
  rcases hg with g | ⟨g1, g2, g3, g4, g5, -⟩
  · rw [pThen_f g.1, g.1]
    rw [g.1] at sP
    refine j_aload_n dX12_readAllOf_0 rfl ?_
    refine r_cv0EI dX12_readAllOf_1 cvX12_214 (by decide) (by first | assumption | exact hsh _ _ rfl) (Nat.le_of_ble_eq_true rfl) (Nat.le_of_eq (Nat.zero_add _)) (Nat.le_of_eq (Nat.zero_add _)) (sP) (fun K hK => ?_)
    refine j_if_ne (tgt := 9) dX12_readAllOf_4 rfl (by first | omega | (split <;> omega)) (fun c_4 => by exact absurd c_4 (by decide)) (fun c_4 => ?_)
    refine j_iconst dX12_readAllOf_7 ?_
    refine j_zret dX12_readAllOf_8 rfl (by omega) ?_
    exact rEI_of rfl hK
  · rw [pThen_t g1]
    rw [g1] at sP
    refine j_aload_n dX12_readAllOf_0 rfl ?_
    refine r_cv0EI dX12_readAllOf_1 cvX12_214 (by decide) (by first | assumption | exact hsh _ _ rfl) (Nat.le_of_ble_eq_true rfl) (Nat.le_of_eq (Nat.zero_add _)) (Nat.le_of_eq (Nat.zero_add _)) (sP) (fun K hK => ?_)
    have hMK := hK.2.1 g1
    refine j_if_ne (tgt := 9) dX12_readAllOf_4 rfl (by first | omega | (split <;> omega)) (fun c_4 => ?_) (fun c_4 => by exact absurd c_4 (by decide))
    exact key 401 S.2.1 S.2.2.1 S.2.2.2 K (by omega) (by omega) (by omega) hMK.1 hK.1 hMK.2
theorem ml_cond {c : Nat} {deep : Int} (hsh : ShOK sh) (hfx : FxOK F) (hA : aGd n c A) (hS : mAs G (d + 7) sh F B n deep A) (h13 : I 170 13 = deep) (hM : Mp I B n q m w) (hm : 0 ≤ m ∧ m + 2 ≤ q) : jS G (d + 9) mX12_readCond [jR (some 170)] (sh, I, F) 0 0 (rEI (pCond B n A q m w).1 sh F (pMd I B n (pCond B n A q m w))) := by
  have sA := fun (J : Nat → Int → Int) (q m : Int) (w : Int → Int) (h0 : J 170 13 = deep) (h1 : Mp J B n q m w) (h2 : 0 ≤ m) (h3 : m + 2 ≤ q) => ml_all (G := G) (d := d) (F := F) hsh hfx hA hS h0 h1 ⟨h2, h3⟩
  refine jS_go [some (jR (some 170))] (by decide +kernel) rfl (by simp [jone]) (Nat.le_of_ble_eq_true rfl) rfl (fun hok => ?_)
  have key : ∀ (u : Nat) (q m : Int) (w : Int → Int) (J : Nat → Int → Int), n - q < u → 0 ≤ m → m + 2 ≤ q → Mp J B n q m w → FrP I J → J 170 13 = I 170 13 → jW G mX12_readCond (d + 9) (rEI (pOrR B n A 401 q m w).1 sh F (pMd I B n (pOrR B n A 401 q m w))) 9 [some (jR (some 170))] [] (sh, J, F) 0 0 := by
    intro u
    induction u with
    | zero =>
      intro q m w J hu hm0 hmq hM hf h3
      have hq := Mp_q hM
      omega
    | succ u ih =>
      intro q m w J hu hm0 hmq hM hf h3
      have hq := Mp_q hM
      rw [pOrR_u hA (by omega) hq.1.2 hq.2]
      by_cases e : vWd B n q 24
      · rw [if_pos e]
        have ht := wd_s hq.1.2 e
        have sS := ml_pass1 (G := G) (d := d + 3) (F := F) hsh hfx hM (t := 24) (by decide) e
        have sP := fun (K : Nat → Int → Int) (h0 : K 170 13 = deep) (h : Mp K B n (tkN B n q) m w) => sA K _ _ _ h0 h hm0 (by omega)
        have hg := pAll_g (B := B) hA (m := m) (w := w) ht.2
        generalize pAll B n A (tkN B n q) m w = S at *
        rcases hg with g | ⟨g1, g2, g3, g4, g5, -⟩
        · rw [pThen_f g.1, g.1]
          rw [g.1] at sP
          refine j_aload_n dX12_readCond_9 rfl ?_
          refine j_ldcS dX12_readCond_10 (t := 24) (by decide +kernel) ?_
          refine r_cv1EI dX12_readCond_12 cvX12_211 (by decide) (by first | assumption | exact hsh _ _ rfl) (Nat.le_of_ble_eq_true rfl) (Nat.le_of_eq (Nat.zero_add _)) (Nat.le_of_eq (Nat.zero_add _)) (sS) (fun K hK => ?_)
          refine j_if_eq (tgt := 37) dX12_readCond_15 rfl (by first | omega | (split <;> omega)) (fun c_15 => by exact absurd c_15 (by decide)) (fun c_15 => ?_)
          refine j_aload_n dX12_readCond_18 rfl ?_
          refine r_cv0EI dX12_readCond_19 cvX12_225 (by decide) (by first | assumption | exact hsh _ _ rfl) (Nat.le_of_ble_eq_true rfl) (Nat.le_of_eq (Nat.zero_add _)) (Nat.le_of_eq (Nat.zero_add _)) (sP K (by rw [hK.2.2.2, h3]; exact h13) hK.2.1) (fun P hP => ?_)
          refine j_if_ne (tgt := 27) dX12_readCond_22 rfl (by first | omega | (split <;> omega)) (fun c_22 => by exact absurd c_22 (by decide)) (fun c_22 => ?_)
          refine j_iconst dX12_readCond_25 ?_
          refine j_zret dX12_readCond_26 rfl (by omega) ?_
          exact rEI_of rfl (pMd_fr hP (FrP_tr hf hK.2.2.1) (by rw [hK.2.2.2]; exact h3))
        · rw [pThen_t g1]
          rw [g1] at sP
          have sE := fun (P : Nat → Int → Int) (h : Mp P B n S.2.1 S.2.2.1 S.2.2.2) => me_emits (G := G) (d := d + 8) (F := F) hsh hfx h.2.1 h.2.2 (by omega) (st := 13) (a := 0) (by decide) (by decide)
          refine j_aload_n dX12_readCond_9 rfl ?_
          refine j_ldcS dX12_readCond_10 (t := 24) (by decide +kernel) ?_
          refine r_cv1EI dX12_readCond_12 cvX12_211 (by decide) (by first | assumption | exact hsh _ _ rfl) (Nat.le_of_ble_eq_true rfl) (Nat.le_of_eq (Nat.zero_add _)) (Nat.le_of_eq (Nat.zero_add _)) (sS) (fun K hK => ?_)
          refine j_if_eq (tgt := 37) dX12_readCond_15 rfl (by first | omega | (split <;> omega)) (fun c_15 => by exact absurd c_15 (by decide)) (fun c_15 => ?_)
          refine j_aload_n dX12_readCond_18 rfl ?_
          refine r_cv0EI dX12_readCond_19 cvX12_225 (by decide) (by first | assumption | exact hsh _ _ rfl) (Nat.le_of_ble_eq_true rfl) (Nat.le_of_eq (Nat.zero_add _)) (Nat.le_of_eq (Nat.zero_add _)) (sP K (by rw [hK.2.2.2, h3]; exact h13) hK.2.1) (fun P hP => ?_)
          have hMP := hP.2.1 g1
          refine j_if_ne (tgt := 27) dX12_readCond_22 rfl (by first | omega | (split <;> omega)) (fun c_22 => ?_) (fun c_22 => by exact absurd c_22 (by decide))
          refine j_aload_n dX12_readCond_27 rfl ?_
          refine j_bipush dX12_readCond_28 (by decide) ?_
          refine j_iconst dX12_readCond_30 ?_
          refine r_cv2EV dX12_readCond_31 cvX12_185 (by decide) (by first | assumption | exact hsh _ _ rfl) (Nat.le_of_ble_eq_true rfl) (Nat.le_of_eq (Nat.zero_add _)) (Nat.le_of_eq (Nat.zero_add _)) (sE P hMP.1) (fun N hN => ?_)
          have hQ := em_Q hN hMP.1.2.1 (by omega)
          refine j_goto (tgt := 9) dX12_readCond_34 rfl ?_
          exact ih S.2.1 (S.2.2.1 + 1) _ N (by omega) (by omega) (by omega) (Mp_em hMP.1 hN) (FrP_tr (FrP_tr (FrP_tr hf hK.2.2.1) hP.1) hQ.2.1) (by rw [hQ.2.2, hMP.2, hK.2.2.2]; exact h3)
      · rw [if_neg e]
        have sS := ml_pass0 (G := G) (d := d + 3) (F := F) hsh hfx hM (t := 24) (by decide) e
        refine j_aload_n dX12_readCond_9 rfl ?_
        refine j_ldcS dX12_readCond_10 (t := 24) (by decide +kernel) ?_
        refine r_cv1EI dX12_readCond_12 cvX12_211 (by decide) (by first | assumption | exact hsh _ _ rfl) (Nat.le_of_ble_eq_true rfl) (Nat.le_of_eq (Nat.zero_add _)) (Nat.le_of_eq (Nat.zero_add _)) (sS) (fun K hK => ?_)
        refine j_if_eq (tgt := 37) dX12_readCond_15 rfl (by first | omega | (split <;> omega)) (fun c_15 => ?_) (fun c_15 => by exact absurd c_15 (by decide))
        refine j_iconst dX12_readCond_37 ?_
        refine j_zret dX12_readCond_38 rfl (by omega) ?_
        exact rEI_of rfl (pMd_1 (FrP_tr hf hK.2.2.1) hK.2.1 (by rw [hK.2.2.2]; exact h3))
  have hq := Mp_q hM
  have sP := sA I q m w h13 hM hm.1 hm.2
  have hg := pAll_g (B := B) hA (m := m) (w := w) hq.1.2
  have hR : pCond B n A q m w = pThen (pAll B n A q m w) (pOrR B n A 401) := rfl
  rw [hR]
  generalize pAll B n A q m w = S at *
  rcases hg with g | ⟨g1, g2, g3, g4, g5, -⟩
  · rw [pThen_f g.1, g.1]
    rw [g.1] at sP
    refine j_aload_n dX12_readCond_0 rfl ?_
    refine r_cv0EI dX12_readCond_1 cvX12_225 (by decide) (by first | assumption | exact hsh _ _ rfl) (Nat.le_of_ble_eq_true rfl) (Nat.le_of_eq (Nat.zero_add _)) (Nat.le_of_eq (Nat.zero_add _)) (sP) (fun K hK => ?_)
    refine j_if_ne (tgt := 9) dX12_readCond_4 rfl (by first | omega | (split <;> omega)) (fun c_4 => by exact absurd c_4 (by decide)) (fun c_4 => ?_)
    refine j_iconst dX12_readCond_7 ?_
    refine j_zret dX12_readCond_8 rfl (by omega) ?_
    exact rEI_of rfl hK
  · rw [pThen_t g1]
    rw [g1] at sP
    refine j_aload_n dX12_readCond_0 rfl ?_
    refine r_cv0EI dX12_readCond_1 cvX12_225 (by decide) (by first | assumption | exact hsh _ _ rfl) (Nat.le_of_ble_eq_true rfl) (Nat.le_of_eq (Nat.zero_add _)) (Nat.le_of_eq (Nat.zero_add _)) (sP) (fun K hK => ?_)
    have hMK := hK.2.1 g1
    refine j_if_ne (tgt := 9) dX12_readCond_4 rfl (by first | omega | (split <;> omega)) (fun c_4 => ?_) (fun c_4 => by exact absurd c_4 (by decide))
    exact key 401 S.2.1 S.2.2.1 S.2.2.2 K (by omega) (by omega) (by omega) hMK.1 hK.1 hMK.2
/-- a comparison -/
theorem ml_cmp (hsh : ShOK sh) (hfx : FxOK F) (hM : Mp I B n q m w) (hm : 0 ≤ m ∧ m + 2 ≤ q) {I0 : Nat → Int → Int} (hf : FrP I0 I) (h13 : I 170 13 = I0 170 13) : jW G mX12_readAtom (d + 7) (rEI (pCmp B n q m w).1 sh F (pMd I0 B n (pCmp B n q m w))) 123 [some (jR (some 170)), none] [] (sh, I, F) 0 0 := by
  have hq := Mp_q hM
  have sU := ml_sum (G := G) (d := d) (F := F) hsh hfx hM hm
  have hg := pSum_g (B := B) (m := m) (w := w) hq.1.2
  have hR : pCmp B n q m w = pThen (pSum B n q m w) (fun q1 m1 w1 => if vSg B n q1 60 ∨ vSg B n q1 62 then pThen (pSum B n (tkN B n q1) m1 w1) (fun q2 m2 w2 => (1, q2, m2 + 1, pE w2 m2 (if vSg B n q1 60 then 9 else 10) 0)) else (0, q1, m1, w1)) := rfl
  rw [hR]
  generalize pSum B n q m w = S at *
  rcases hg with g | ⟨g1, g2, g3, g4, g5, -⟩
  · rw [pThen_f g.1, g.1]
    rw [g.1] at sU
    refine j_aload_n dX12_readAtom_123 rfl ?_
    refine r_cv0EI dX12_readAtom_124 cvX12_220 (by decide) (by first | assumption | exact hsh _ _ rfl) (Nat.le_of_ble_eq_true rfl) (Nat.le_of_eq (Nat.zero_add _)) (Nat.le_of_eq (Nat.zero_add _)) (sU) (fun J hJ => ?_)
    refine j_if_ne (tgt := 132) dX12_readAtom_127 rfl (by first | omega | (split <;> omega)) (fun c_127 => by exact absurd c_127 (by decide)) (fun c_127 => ?_)
    refine j_iconst dX12_readAtom_130 ?_
    refine j_zret dX12_readAtom_131 rfl (by omega) ?_
    exact rEI_of rfl (pMd_fr hJ hf h13)
  · rw [pThen_t g1]
    rw [g1] at sU
    obtain ⟨q1, hq1⟩ : ∃ x, S.2.1 = x := ⟨_, rfl⟩
    obtain ⟨m1, hm1⟩ : ∃ x, S.2.2.1 = x := ⟨_, rfl⟩
    obtain ⟨w1, hw1⟩ : ∃ x, S.2.2.2 = x := ⟨_, rfl⟩
    rw [hq1, hm1, hw1]
    rw [hq1] at g2 g3 g5
    rw [hm1] at g4 g5
    have hS : ∀ J, pMd I B n S J → Mp J B n q1 m1 w1 ∧ FrP I0 J ∧ J 170 13 = I0 170 13 := fun J h => ⟨by rw [← hq1, ← hm1, ← hw1]; exact (h.2.1 g1).1, FrP_tr hf h.1, (h.2.1 g1).2.trans h13⟩
    have fin : ∀ (y : Int) (J : Nat → Int → Int), (y = 1 ∧ vSg B n q1 60) ∨ (y = 0 ∧ ¬ vSg B n q1 60) → q1 + 1 ≤ tkN B n q1 ∧ tkN B n q1 ≤ n → Mp J B n (tkN B n q1) m1 w1 → FrP I0 J → J 170 13 = I0 170 13 → jW G mX12_readAtom (d + 7) (rEI (pThen (pSum B n (tkN B n q1) m1 w1) (fun q2 m2 w2 => ((1, q2, m2 + 1, pE w2 m2 (if vSg B n q1 60 then 9 else 10) 0) : pR))).1 sh F (pMd I0 B n (pThen (pSum B n (tkN B n q1) m1 w1) (fun q2 m2 w2 => (1, q2, m2 + 1, pE w2 m2 (if vSg B n q1 60 then 9 else 10) 0))))) 152 [some (jR (some 170)), some (jI y)] [] (sh, J, F) 0 0 := by
      intro y J hy ht hMJ hfJ h3
      have hg2 := pSum_g (B := B) (m := m1) (w := w1) ht.2
      have sU2 := ml_sum (G := G) (d := d) (F := F) hsh hfx hMJ (by omega)
      generalize pSum B n (tkN B n q1) m1 w1 = T at *
      rcases hg2 with f | ⟨f1, f2, f3, f4, f5, -⟩
      · rw [pThen_f f.1, f.1]
        rw [f.1] at sU2
        refine j_aload_n dX12_readAtom_152 rfl ?_
        refine r_cv0EI dX12_readAtom_153 cvX12_220 (by decide) (by first | assumption | exact hsh _ _ rfl) (Nat.le_of_ble_eq_true rfl) (Nat.le_of_eq (Nat.zero_add _)) (Nat.le_of_eq (Nat.zero_add _)) (sU2) (fun K hK => ?_)
        refine j_if_ne (tgt := 161) dX12_readAtom_156 rfl (by first | omega | (split <;> omega)) (fun c_156 => by exact absurd c_156 (by decide)) (fun c_156 => ?_)
        refine j_iconst dX12_readAtom_159 ?_
        refine j_zret dX12_readAtom_160 rfl (by omega) ?_
        exact rEI_of rfl (pMd_fr hK hfJ h3)
      · rw [pThen_t f1]
        rw [f1] at sU2
        rcases hy with ⟨rfl, hy⟩ | ⟨rfl, hy⟩
        · rw [if_pos hy]
          have sE := fun (N : Nat → Int → Int) (h : Mp N B n T.2.1 T.2.2.1 T.2.2.2) => me_emits (G := G) (d := d + 6) (F := F) hsh hfx h.2.1 h.2.2 (by omega) (st := 9) (a := 0) (by decide) (by decide)
          refine j_aload_n dX12_readAtom_152 rfl ?_
          refine r_cv0EI dX12_readAtom_153 cvX12_220 (by decide) (by first | assumption | exact hsh _ _ rfl) (Nat.le_of_ble_eq_true rfl) (Nat.le_of_eq (Nat.zero_add _)) (Nat.le_of_eq (Nat.zero_add _)) (sU2) (fun K hK => ?_)
          have hMK := hK.2.1 f1
          refine j_if_ne (tgt := 161) dX12_readAtom_156 rfl (by first | omega | (split <;> omega)) (fun c_156 => ?_) (fun c_156 => by exact absurd c_156 (by decide))
          refine j_aload_n dX12_readAtom_161 rfl ?_
          refine j_iload_n dX12_readAtom_162 rfl ?_
          refine j_if_eq (tgt := 171) dX12_readAtom_163 rfl (by first | omega | (split <;> omega)) (fun c_163 => by exact absurd c_163 (by decide)) (fun c_163 => ?_)
          refine j_bipush dX12_readAtom_166 (by decide) ?_
          refine j_goto (tgt := 173) dX12_readAtom_168 rfl ?_
          refine j_iconst dX12_readAtom_173 ?_
          refine r_cv2EV dX12_readAtom_174 cvX12_185 (by decide) (by first | assumption | exact hsh _ _ rfl) (Nat.le_of_ble_eq_true rfl) (Nat.le_of_eq (Nat.zero_add _)) (Nat.le_of_eq (Nat.zero_add _)) (sE K hMK.1) (fun N hN => ?_)
          have hQ := em_Q hN hMK.1.2.1 (by omega)
          refine j_iconst dX12_readAtom_177 ?_
          refine j_zret dX12_readAtom_178 rfl (by omega) ?_
          exact rEI_of rfl (pMd_1 (FrP_tr (FrP_tr hfJ hK.1) hQ.2.1) (Mp_em hMK.1 hN) (by rw [hQ.2.2, hMK.2]; exact h3))
        · rw [if_neg hy]
          have sE := fun (N : Nat → Int → Int) (h : Mp N B n T.2.1 T.2.2.1 T.2.2.2) => me_emits (G := G) (d := d + 6) (F := F) hsh hfx h.2.1 h.2.2 (by omega) (st := 10) (a := 0) (by decide) (by decide)
          refine j_aload_n dX12_readAtom_152 rfl ?_
          refine r_cv0EI dX12_readAtom_153 cvX12_220 (by decide) (by first | assumption | exact hsh _ _ rfl) (Nat.le_of_ble_eq_true rfl) (Nat.le_of_eq (Nat.zero_add _)) (Nat.le_of_eq (Nat.zero_add _)) (sU2) (fun K hK => ?_)
          have hMK := hK.2.1 f1
          refine j_if_ne (tgt := 161) dX12_readAtom_156 rfl (by first | omega | (split <;> omega)) (fun c_156 => ?_) (fun c_156 => by exact absurd c_156 (by decide))
          refine j_aload_n dX12_readAtom_161 rfl ?_
          refine j_iload_n dX12_readAtom_162 rfl ?_
          refine j_if_eq (tgt := 171) dX12_readAtom_163 rfl (by first | omega | (split <;> omega)) (fun c_163 => ?_) (fun c_163 => by exact absurd rfl c_163)
          refine j_bipush dX12_readAtom_171 (by decide) ?_
          refine j_iconst dX12_readAtom_173 ?_
          refine r_cv2EV dX12_readAtom_174 cvX12_185 (by decide) (by first | assumption | exact hsh _ _ rfl) (Nat.le_of_ble_eq_true rfl) (Nat.le_of_eq (Nat.zero_add _)) (Nat.le_of_eq (Nat.zero_add _)) (sE K hMK.1) (fun N hN => ?_)
          have hQ := em_Q hN hMK.1.2.1 (by omega)
          refine j_iconst dX12_readAtom_177 ?_
          refine j_zret dX12_readAtom_178 rfl (by omega) ?_
          exact rEI_of rfl (pMd_1 (FrP_tr (FrP_tr hfJ hK.1) hQ.2.1) (Mp_em hMK.1 hN) (by rw [hQ.2.2, hMK.2]; exact h3))
    have c60 : 0 ≤ (60 : Int) ∧ (60 : Int) ≤ 127 ∧ ¬ isL 60 ∧ ¬ isD 60 := by decide
    have c62 : 0 ≤ (62 : Int) ∧ (62 : Int) ≤ 127 ∧ ¬ isL 62 ∧ ¬ isD 62 := by decide
    by_cases e1 : vSg B n q1 60
    · rw [if_pos (Or.inl e1)]
      have s1 := fun (J : Nat → Int → Int) (h : Mp J B n q1 m1 w1) => ml_sign1 (G := G) (d := d + 4) (F := F) hsh hfx h c60 e1
      refine j_aload_n dX12_readAtom_123 rfl ?_
      refine r_cv0EI dX12_readAtom_124 cvX12_220 (by decide) (by first | assumption | exact hsh _ _ rfl) (Nat.le_of_ble_eq_true rfl) (Nat.le_of_eq (Nat.zero_add _)) (Nat.le_of_eq (Nat.zero_add _)) (sU) (fun J hJ => ?_)
      have hJ2 := hS J hJ
      refine j_if_ne (tgt := 132) dX12_readAtom_127 rfl (by first | omega | (split <;> omega)) (fun c_127 => ?_) (fun c_127 => by exact absurd c_127 (by decide))
      refine j_aload_n dX12_readAtom_132 rfl ?_
      refine j_bipush dX12_readAtom_133 (by decide) ?_
      refine r_cv1EI dX12_readAtom_135 cvX12_196 (by decide) (by first | assumption | exact hsh _ _ rfl) (Nat.le_of_ble_eq_true rfl) (Nat.le_of_eq (Nat.zero_add _)) (Nat.le_of_eq (Nat.zero_add _)) (s1 J hJ2.1) (fun K hK => ?_)
      refine j_istore_n dX12_readAtom_138 (by decide) ?_
      refine j_iload_n dX12_readAtom_139 rfl ?_
      refine j_if_ne (tgt := 152) dX12_readAtom_140 rfl (by first | omega | (split <;> omega)) (fun c_140 => ?_) (fun c_140 => by exact absurd (by decide) c_140)
      exact fin 1 K (Or.inl ⟨rfl, e1⟩) (sg_s g3 e1) hK.2.1 (FrP_tr hJ2.2.1 hK.2.2.1) (by rw [hK.2.2.2]; exact hJ2.2.2)
    · have s1 := fun (J : Nat → Int → Int) (h : Mp J B n q1 m1 w1) => ml_sign0 (G := G) (d := d + 4) (F := F) hsh hfx h c60 e1
      by_cases e2 : vSg B n q1 62
      · rw [if_pos (Or.inr e2)]
        have s2 := fun (J : Nat → Int → Int) (h : Mp J B n q1 m1 w1) => ml_sign1 (G := G) (d := d + 4) (F := F) hsh hfx h c62 e2
        refine j_aload_n dX12_readAtom_123 rfl ?_
        refine r_cv0EI dX12_readAtom_124 cvX12_220 (by decide) (by first | assumption | exact hsh _ _ rfl) (Nat.le_of_ble_eq_true rfl) (Nat.le_of_eq (Nat.zero_add _)) (Nat.le_of_eq (Nat.zero_add _)) (sU) (fun J hJ => ?_)
        have hJ2 := hS J hJ
        refine j_if_ne (tgt := 132) dX12_readAtom_127 rfl (by first | omega | (split <;> omega)) (fun c_127 => ?_) (fun c_127 => by exact absurd c_127 (by decide))
        refine j_aload_n dX12_readAtom_132 rfl ?_
        refine j_bipush dX12_readAtom_133 (by decide) ?_
        refine r_cv1EI dX12_readAtom_135 cvX12_196 (by decide) (by first | assumption | exact hsh _ _ rfl) (Nat.le_of_ble_eq_true rfl) (Nat.le_of_eq (Nat.zero_add _)) (Nat.le_of_eq (Nat.zero_add _)) (s1 J hJ2.1) (fun K hK => ?_)
        refine j_istore_n dX12_readAtom_138 (by decide) ?_
        refine j_iload_n dX12_readAtom_139 rfl ?_
        refine j_if_ne (tgt := 152) dX12_readAtom_140 rfl (by first | omega | (split <;> omega)) (fun c_140 => by exact absurd rfl c_140) (fun c_140 => ?_)
        refine j_aload_n dX12_readAtom_143 rfl ?_
        refine j_bipush dX12_readAtom_144 (by decide) ?_
        refine r_cv1EI dX12_readAtom_146 cvX12_196 (by decide) (by first | assumption | exact hsh _ _ rfl) (Nat.le_of_ble_eq_true rfl) (Nat.le_of_eq (Nat.zero_add _)) (Nat.le_of_eq (Nat.zero_add _)) (s2 K hK.2.1) (fun N hN => ?_)
        refine j_if_eq (tgt := 159) dX12_readAtom_149 rfl (by first | omega | (split <;> omega)) (fun c_149 => by exact absurd c_149 (by decide)) (fun c_149 => ?_)
        exact fin 0 N (Or.inr ⟨rfl, e1⟩) (sg_s g3 e2) hN.2.1 (FrP_tr (FrP_tr hJ2.2.1 hK.2.2.1) hN.2.2.1) (by rw [hN.2.2.2, hK.2.2.2]; exact hJ2.2.2)
      · rw [if_neg (fun h => h.elim e1 e2)]
        have s2 := fun (J : Nat → Int → Int) (h : Mp J B n q1 m1 w1) => ml_sign0 (G := G) (d := d + 4) (F := F) hsh hfx h c62 e2
        refine j_aload_n dX12_readAtom_123 rfl ?_
        refine r_cv0EI dX12_readAtom_124 cvX12_220 (by decide) (by first | assumption | exact hsh _ _ rfl) (Nat.le_of_ble_eq_true rfl) (Nat.le_of_eq (Nat.zero_add _)) (Nat.le_of_eq (Nat.zero_add _)) (sU) (fun J hJ => ?_)
        have hJ2 := hS J hJ
        refine j_if_ne (tgt := 132) dX12_readAtom_127 rfl (by first | omega | (split <;> omega)) (fun c_127 => ?_) (fun c_127 => by exact absurd c_127 (by decide))
        refine j_aload_n dX12_readAtom_132 rfl ?_
        refine j_bipush dX12_readAtom_133 (by decide) ?_
        refine r_cv1EI dX12_readAtom_135 cvX12_196 (by decide) (by first | assumption | exact hsh _ _ rfl) (Nat.le_of_ble_eq_true rfl) (Nat.le_of_eq (Nat.zero_add _)) (Nat.le_of_eq (Nat.zero_add _)) (s1 J hJ2.1) (fun K hK => ?_)
        refine j_istore_n dX12_readAtom_138 (by decide) ?_
        refine j_iload_n dX12_readAtom_139 rfl ?_
        refine j_if_ne (tgt := 152) dX12_readAtom_140 rfl (by first | omega | (split <;> omega)) (fun c_140 => by exact absurd rfl c_140) (fun c_140 => ?_)
        refine j_aload_n dX12_readAtom_143 rfl ?_
        refine j_bipush dX12_readAtom_144 (by decide) ?_
        refine r_cv1EI dX12_readAtom_146 cvX12_196 (by decide) (by first | assumption | exact hsh _ _ rfl) (Nat.le_of_ble_eq_true rfl) (Nat.le_of_eq (Nat.zero_add _)) (Nat.le_of_eq (Nat.zero_add _)) (s2 K hK.2.1) (fun N hN => ?_)
        refine j_if_eq (tgt := 159) dX12_readAtom_149 rfl (by first | omega | (split <;> omega)) (fun c_149 => ?_) (fun c_149 => by exact absurd c_149 (by decide))
        refine j_iconst dX12_readAtom_159 ?_
        refine j_zret dX12_readAtom_160 rfl (by omega) ?_
        exact rEI_of rfl (pMd_0 (FrP_tr (FrP_tr hJ2.2.1 hK.2.2.1) hN.2.2.1) hN.1)
/-- what is no "not" and no "(" -/
theorem ml_tag (hsh : ShOK sh) (hfx : FxOK F) (hM : Mp I B n q m w) (hm : 0 ≤ m ∧ m + 2 ≤ q) {I0 : Nat → Int → Int} (hf : FrP I0 I) (h13 : I 170 13 = I0 170 13) : jW G mX12_readAtom (d + 7) (rEI (pTag B n q m w).1 sh F (pMd I0 B n (pTag B n q m w))) 114 [some (jR (some 170)), none] [] (sh, I, F) 0 0 := by
  have hR : pTag B n q m w = if vWd B n q 19 then (1, tkN B n q, m + 1, pE w m 5 0) else if vWd B n q 20 then (1, tkN B n q, m + 1, pE w m 6 0) else pCmp B n q m w := rfl
  rw [hR]
  by_cases e : vWd B n q 19
  · rw [if_pos e]
    have s1 := ml_tag1 (G := G) (d := d + 1) (F := F) hsh hfx hM hm (st := 5) (Or.inl ⟨rfl, e⟩)
    refine j_aload_n dX12_readAtom_114 rfl ?_
    refine r_cv0EI dX12_readAtom_115 cvX12_217 (by decide) (by first | assumption | exact hsh _ _ rfl) (Nat.le_of_ble_eq_true rfl) (Nat.le_of_eq (Nat.zero_add _)) (Nat.le_of_eq (Nat.zero_add _)) (s1) (fun J hJ => ?_)
    refine j_if_eq (tgt := 123) dX12_readAtom_118 rfl (by first | omega | (split <;> omega)) (fun c_118 => by exact absurd c_118 (by decide)) (fun c_118 => ?_)
    refine j_iconst dX12_readAtom_121 ?_
    refine j_zret dX12_readAtom_122 rfl (by omega) ?_
    exact rEI_of rfl (pMd_fr hJ hf h13)
  · rw [if_neg e]
    by_cases e2 : vWd B n q 20
    · rw [if_pos e2]
      have s1 := ml_tag1 (G := G) (d := d + 1) (F := F) hsh hfx hM hm (st := 6) (Or.inr ⟨rfl, e, e2⟩)
      refine j_aload_n dX12_readAtom_114 rfl ?_
      refine r_cv0EI dX12_readAtom_115 cvX12_217 (by decide) (by first | assumption | exact hsh _ _ rfl) (Nat.le_of_ble_eq_true rfl) (Nat.le_of_eq (Nat.zero_add _)) (Nat.le_of_eq (Nat.zero_add _)) (s1) (fun J hJ => ?_)
      refine j_if_eq (tgt := 123) dX12_readAtom_118 rfl (by first | omega | (split <;> omega)) (fun c_118 => by exact absurd c_118 (by decide)) (fun c_118 => ?_)
      refine j_iconst dX12_readAtom_121 ?_
      refine j_zret dX12_readAtom_122 rfl (by omega) ?_
      exact rEI_of rfl (pMd_fr hJ hf h13)
    · rw [if_neg e2]
      have s1 := ml_tag0 (G := G) (d := d + 1) (F := F) hsh hfx hM e e2
      refine j_aload_n dX12_readAtom_114 rfl ?_
      refine r_cv0EI dX12_readAtom_115 cvX12_217 (by decide) (by first | assumption | exact hsh _ _ rfl) (Nat.le_of_ble_eq_true rfl) (Nat.le_of_eq (Nat.zero_add _)) (Nat.le_of_eq (Nat.zero_add _)) (s1) (fun J hJ => ?_)
      refine j_if_eq (tgt := 123) dX12_readAtom_118 rfl (by first | omega | (split <;> omega)) (fun c_118 => ?_) (fun c_118 => by exact absurd c_118 (by decide))
      exact ml_cmp hsh hfx hJ.1 hm (FrP_tr hf hJ.2.1) (by rw [hJ.2.2]; exact h13)
theorem ml_atom (hsh : ShOK sh) (hfx : FxOK F) : ∀ (g D : Nat), 3 * g + 7 ≤ D → g ≤ 6 → mAs G D sh F B n (6 - (g : Int)) (pAtom B n g) := by
  have c40 : 0 ≤ (40 : Int) ∧ (40 : Int) ≤ 127 ∧ ¬ isL 40 ∧ ¬ isD 40 := by decide
  have c41 : 0 ≤ (41 : Int) ∧ (41 : Int) ≤ 127 ∧ ¬ isL 41 ∧ ¬ isD 41 := by decide
  intro g
  induction g with
  | zero =>
    intro D hD _ I q m w h13 hM hm0 hmq
    obtain ⟨d, rfl⟩ : ∃ d, D = d + 7 := ⟨D - 7, by omega⟩
    have e6 : (6 - ((0 : Nat) : Int)) = 6 := rfl
    rw [e6] at h13
    have hR : pAtom B n 0 q m w = if vSg B n q 40 ∨ vWd B n q 18 then (0, q, m, w) else pTag B n q m w := rfl
    rw [hR]
    refine jS_go [some (jR (some 170)), none] (by decide +kernel) rfl (by simp [jone]) (Nat.le_of_ble_eq_true rfl) rfl (fun hok => ?_)
    by_cases e2 : vSg B n q 40
    · rw [if_pos (Or.inl e2)]
      have sS := ml_sign1 (G := G) (d := d + 4) (F := F) hsh hfx hM c40 e2
      refine j_aload_n dX12_readAtom_0 rfl ?_
      refine j_bipush dX12_readAtom_1 (by decide) ?_
      refine r_cv1EI dX12_readAtom_3 cvX12_196 (by decide) (by first | assumption | exact hsh _ _ rfl) (Nat.le_of_ble_eq_true rfl) (Nat.le_of_eq (Nat.zero_add _)) (Nat.le_of_eq (Nat.zero_add _)) (sS) (fun J hJ => ?_)
      obtain ⟨⟨p9, hp9⟩, hJ2⟩ := hJ
      have j13 := hJ2.2.2.trans h13
      refine j_if_eq (tgt := 56) dX12_readAtom_6 rfl (by first | omega | (split <;> omega)) (fun c_6 => by exact absurd c_6 (by decide)) (fun c_6 => ?_)
      refine j_aload_n dX12_readAtom_9 rfl ?_
      refine r_getIE dX12_readAtom_10 flX12_203 (by first | assumption | exact hsh _ _ rfl) j13 (fun b_10 => ?_)
      refine j_bipush dX12_readAtom_13 (by decide) ?_
      refine j_icmp_ne (tgt := 20) dX12_readAtom_15 rfl (by first | omega | (split <;> omega)) (by first | omega | (split <;> omega)) (fun c_15 => by exact absurd rfl c_15) (fun c_15 => ?_)
      refine j_iconst dX12_readAtom_18 ?_
      refine j_zret dX12_readAtom_19 rfl (by omega) ?_
      exact rEI_of rfl (pMd_0 hJ2.2.1 hp9)
    · have sS := ml_sign0 (G := G) (d := d + 4) (F := F) hsh hfx hM c40 e2
      by_cases e : vWd B n q 18
      · rw [if_pos (Or.inr e)]
        have sW := fun (J : Nat → Int → Int) (h : Mp J B n q m w) => ml_pass1 (G := G) (d := d + 1) (F := F) hsh hfx h (t := 18) (by decide) e
        refine j_aload_n dX12_readAtom_0 rfl ?_
        refine j_bipush dX12_readAtom_1 (by decide) ?_
        refine r_cv1EI dX12_readAtom_3 cvX12_196 (by decide) (by first | assumption | exact hsh _ _ rfl) (Nat.le_of_ble_eq_true rfl) (Nat.le_of_eq (Nat.zero_add _)) (Nat.le_of_eq (Nat.zero_add _)) (sS) (fun J hJ => ?_)
        refine j_if_eq (tgt := 56) dX12_readAtom_6 rfl (by first | omega | (split <;> omega)) (fun c_6 => ?_) (fun c_6 => by exact absurd c_6 (by decide))
        refine j_aload_n dX12_readAtom_56 rfl ?_
        refine j_ldcS dX12_readAtom_57 (t := 18) (by decide +kernel) ?_
        refine r_cv1EI dX12_readAtom_59 cvX12_211 (by decide) (by first | assumption | exact hsh _ _ rfl) (Nat.le_of_ble_eq_true rfl) (Nat.le_of_eq (Nat.zero_add _)) (Nat.le_of_eq (Nat.zero_add _)) (sW J hJ.2.1) (fun K hK => ?_)
        obtain ⟨⟨p9, hp9⟩, hK2⟩ := hK
        have j13 := (hK2.2.2.trans hJ.2.2.2).trans h13
        refine j_if_eq (tgt := 114) dX12_readAtom_62 rfl (by first | omega | (split <;> omega)) (fun c_62 => by exact absurd c_62 (by decide)) (fun c_62 => ?_)
        refine j_aload_n dX12_readAtom_65 rfl ?_
        refine r_getIE dX12_readAtom_66 flX12_203 (by first | assumption | exact hsh _ _ rfl) j13 (fun b_66 => ?_)
        refine j_bipush dX12_readAtom_69 (by decide) ?_
        refine j_icmp_ne (tgt := 76) dX12_readAtom_71 rfl (by first | omega | (split <;> omega)) (by first | omega | (split <;> omega)) (fun c_71 => by exact absurd rfl c_71) (fun c_71 => ?_)
        refine j_iconst dX12_readAtom_74 ?_
        refine j_zret dX12_readAtom_75 rfl (by omega) ?_
        exact rEI_of rfl (pMd_0 (FrP_tr hJ.2.2.1 hK2.2.1) hp9)
      · rw [if_neg (fun h => h.elim e2 e)]
        have sW := fun (J : Nat → Int → Int) (h : Mp J B n q m w) => ml_pass0 (G := G) (d := d + 1) (F := F) hsh hfx h (t := 18) (by decide) e
        refine j_aload_n dX12_readAtom_0 rfl ?_
        refine j_bipush dX12_readAtom_1 (by decide) ?_
        refine r_cv1EI dX12_readAtom_3 cvX12_196 (by decide) (by first | assumption | exact hsh _ _ rfl) (Nat.le_of_ble_eq_true rfl) (Nat.le_of_eq (Nat.zero_add _)) (Nat.le_of_eq (Nat.zero_add _)) (sS) (fun J hJ => ?_)
        refine j_if_eq (tgt := 56) dX12_readAtom_6 rfl (by first | omega | (split <;> omega)) (fun c_6 => ?_) (fun c_6 => by exact absurd c_6 (by decide))
        refine j_aload_n dX12_readAtom_56 rfl ?_
        refine j_ldcS dX12_readAtom_57 (t := 18) (by decide +kernel) ?_
        refine r_cv1EI dX12_readAtom_59 cvX12_211 (by decide) (by first | assumption | exact hsh _ _ rfl) (Nat.le_of_ble_eq_true rfl) (Nat.le_of_eq (Nat.zero_add _)) (Nat.le_of_eq (Nat.zero_add _)) (sW J hJ.2.1) (fun K hK => ?_)
        refine j_if_eq (tgt := 114) dX12_readAtom_62 rfl (by first | omega | (split <;> omega)) (fun c_62 => ?_) (fun c_62 => by exact absurd c_62 (by decide))
        exact ml_tag hsh hfx hK.2.1 ⟨hm0, hmq⟩ (FrP_tr hJ.2.2.1 hK.2.2.1) (by rw [hK.2.2.2, hJ.2.2.2])
  | succ g ih =>
    intro D hD hg I q m w h13 hM hm0 hmq
    obtain ⟨d, rfl⟩ : ∃ d, D = d + 10 := ⟨D - 10, by omega⟩
    obtain ⟨deep, hd⟩ : ∃ x, (6 - ((g + 1 : Nat) : Int)) = x := ⟨_, rfl⟩
    have hd1 : deep + 1 = 6 - (g : Int) := by omega
    rw [hd] at h13
    have hq := Mp_q hM
    have ihA := ih (d + 7) (by omega) (by omega)
    have ihB := ih (d + 9) (by omega) (by omega)
    have hR : pAtom B n (g + 1) q m w = if vSg B n q 40 then pThen (pCond B n (pAtom B n g) (tkN B n q) m w) (fun q1 m1 w1 => if vSg B n q1 41 then (1, tkN B n q1, m1, w1) else (0, q1, m1, w1)) else if vWd B n q 18 then pThen (pAtom B n g (tkN B n q) m w) (fun q1 m1 w1 => (1, q1, m1 + 1, pE w1 m1 11 0)) else pTag B n q m w := rfl
    rw [hR]
    have hAg := pAtom_g (B := B) (n := n) g
    -- deeper
    have dn : ∀ J : Nat → Int → Int, J 170 13 = deep → jup J 170 13 (deep + 1) 170 13 = 6 - (g : Int) := fun J _ => by rw [jup_same]; exact hd1
    refine jS_go [some (jR (some 170)), none] (by decide +kernel) rfl (by simp [jone]) (Nat.le_of_ble_eq_true rfl) rfl (fun hok => ?_)
    by_cases e2 : vSg B n q 40
    · rw [if_pos e2]
      have ht := sg_s hq.1.2 e2
      have sS := ml_sign1 (G := G) (d := d + 7) (F := F) hsh hfx hM c40 e2
      have sC := fun (J : Nat → Int → Int) (h0 : J 170 13 = 6 - (g : Int)) (h1 : Mp J B n (tkN B n q) m w) => ml_cond (G := G) (d := d) (F := F) hsh hfx hAg ihA h0 h1 ⟨hm0, by omega⟩
      have hcg := pCond_g (B := B) hAg (m := m) (w := w) ht.2
      generalize pCond B n (pAtom B n g) (tkN B n q) m w = S at *
      rcases hcg with g0 | ⟨g1, g2, g3, g4, g5, -⟩
      · rw [pThen_f g0.1, g0.1]
        rw [g0.1] at sC
        refine j_aload_n dX12_readAtom_0 rfl ?_
        refine j_bipush dX12_readAtom_1 (by decide) ?_
        refine r_cv1EI dX12_readAtom_3 cvX12_196 (by decide) (by first | assumption | exact hsh _ _ rfl) (Nat.le_of_ble_eq_true rfl) (Nat.le_of_eq (Nat.zero_add _)) (Nat.le_of_eq (Nat.zero_add _)) (sS) (fun J hJ => ?_)
        obtain ⟨-, hJ2⟩ := hJ
        have j13 := hJ2.2.2.trans h13
        refine j_if_eq (tgt := 56) dX12_readAtom_6 rfl (by first | omega | (split <;> omega)) (fun c_6 => by exact absurd c_6 (by decide)) (fun c_6 => ?_)
        refine j_aload_n dX12_readAtom_9 rfl ?_
        refine r_getIE dX12_readAtom_10 flX12_203 (by first | assumption | exact hsh _ _ rfl) j13 (fun b_10 => ?_)
        refine j_bipush dX12_readAtom_13 (by decide) ?_
        refine j_icmp_ne (tgt := 20) dX12_readAtom_15 rfl (by first | omega | (split <;> omega)) (by first | omega | (split <;> omega)) (fun c_15 => ?_) (fun c_15 => by exact absurd (Classical.not_not.1 c_15) (by omega))
        refine j_aload_n dX12_readAtom_20 rfl ?_
        refine j_dup dX12_readAtom_21 trivial ?_
        refine r_getIE dX12_readAtom_22 flX12_203 (by first | assumption | exact hsh _ _ rfl) j13 (fun b_22 => ?_)
        refine j_iconst dX12_readAtom_25 ?_
        refine j_iadd dX12_readAtom_26 ?_
        refine r_putI dX12_readAtom_27 flX12_203 rfl (by first | assumption | exact hsh _ _ rfl) (by first | omega | (split <;> omega)) (fun q => by cases q) ?_
        refine j_aload_n dX12_readAtom_30 rfl ?_
        refine r_cv0EI dX12_readAtom_31 cvX12_206 (by decide) (by first | assumption | exact hsh _ _ rfl) (Nat.le_of_ble_eq_true rfl) (Nat.le_of_eq (Nat.zero_add _)) (Nat.le_of_eq (Nat.zero_add _)) (sC _ (dn J j13) (Mp_13 hJ2.1)) (fun K hK => ?_)
        refine j_if_ne (tgt := 39) dX12_readAtom_34 rfl (by first | omega | (split <;> omega)) (fun c_34 => by exact absurd c_34 (by decide)) (fun c_34 => ?_)
        refine j_iconst dX12_readAtom_37 ?_
        refine j_zret dX12_readAtom_38 rfl (by omega) ?_
        exact rEI_of rfl ⟨FrP_tr (FrP_tr hJ2.2.1 FrP_13) hK.1, fun h => absurd h (by rw [g0.1]; decide), hK.2.2⟩
      · rw [pThen_t g1]
        rw [g1] at sC
        by_cases e3 : vSg B n S.2.1 41
        · rw [if_pos e3]
          have s3 := fun (K : Nat → Int → Int) (h : Mp K B n S.2.1 S.2.2.1 S.2.2.2) => ml_sign1 (G := G) (d := d + 7) (F := F) hsh hfx h c41 e3
          refine j_aload_n dX12_readAtom_0 rfl ?_
          refine j_bipush dX12_readAtom_1 (by decide) ?_
          refine r_cv1EI dX12_readAtom_3 cvX12_196 (by decide) (by first | assumption | exact hsh _ _ rfl) (Nat.le_of_ble_eq_true rfl) (Nat.le_of_eq (Nat.zero_add _)) (Nat.le_of_eq (Nat.zero_add _)) (sS) (fun J hJ => ?_)
          obtain ⟨-, hJ2⟩ := hJ
          have j13 := hJ2.2.2.trans h13
          refine j_if_eq (tgt := 56) dX12_readAtom_6 rfl (by first | omega | (split <;> omega)) (fun c_6 => by exact absurd c_6 (by decide)) (fun c_6 => ?_)
          refine j_aload_n dX12_readAtom_9 rfl ?_
          refine r_getIE dX12_readAtom_10 flX12_203 (by first | assumption | exact hsh _ _ rfl) j13 (fun b_10 => ?_)
          refine j_bipush dX12_readAtom_13 (by decide) ?_
          refine j_icmp_ne (tgt := 20) dX12_readAtom_15 rfl (by first | omega | (split <;> omega)) (by first | omega | (split <;> omega)) (fun c_15 => ?_) (fun c_15 => by exact absurd (Classical.not_not.1 c_15) (by omega))
          refine j_aload_n dX12_readAtom_20 rfl ?_
          refine j_dup dX12_readAtom_21 trivial ?_
          refine r_getIE dX12_readAtom_22 flX12_203 (by first | assumption | exact hsh _ _ rfl) j13 (fun b_22 => ?_)
          refine j_iconst dX12_readAtom_25 ?_
          refine j_iadd dX12_readAtom_26 ?_
          refine r_putI dX12_readAtom_27 flX12_203 rfl (by first | assumption | exact hsh _ _ rfl) (by first | omega | (split <;> omega)) (fun q => by cases q) ?_
          refine j_aload_n dX12_readAtom_30 rfl ?_
          refine r_cv0EI dX12_readAtom_31 cvX12_206 (by decide) (by first | assumption | exact hsh _ _ rfl) (Nat.le_of_ble_eq_true rfl) (Nat.le_of_eq (Nat.zero_add _)) (Nat.le_of_eq (Nat.zero_add _)) (sC _ (dn J j13) (Mp_13 hJ2.1)) (fun K hK => ?_)
          have hMK := hK.2.1 g1
          have k13 : K 170 13 = deep + 1 := by rw [hMK.2, jup_same]
          refine j_if_ne (tgt := 39) dX12_readAtom_34 rfl (by first | omega | (split <;> omega)) (fun c_34 => ?_) (fun c_34 => by exact absurd c_34 (by decide))
          refine j_aload_n dX12_readAtom_39 rfl ?_
          refine j_dup dX12_readAtom_40 trivial ?_
          refine r_getIE dX12_readAtom_41 flX12_203 (by first | assumption | exact hsh _ _ rfl) k13 (fun b_41 => ?_)
          refine j_iconst dX12_readAtom_44 ?_
          refine j_isub dX12_readAtom_45 ?_
          refine r_putI dX12_readAtom_46 flX12_203 rfl (by first | assumption | exact hsh _ _ rfl) (by first | omega | (split <;> omega)) (fun q => by cases q) ?_
          refine j_aload_n dX12_readAtom_49 rfl ?_
          refine j_bipush dX12_readAtom_50 (by decide) ?_
          rw [show deep + 1 - 1 = deep by omega]
          refine r_cv1EI dX12_readAtom_52 cvX12_196 (by decide) (by first | assumption | exact hsh _ _ rfl) (Nat.le_of_ble_eq_true rfl) (Nat.le_of_eq (Nat.zero_add _)) (Nat.le_of_eq (Nat.zero_add _)) (s3 _ (Mp_13 hMK.1)) (fun P hP => ?_)
          refine j_zret dX12_readAtom_55 rfl (by omega) ?_
          exact rEI_of rfl (pMd_1 (FrP_tr (FrP_tr (FrP_tr (FrP_tr hJ2.2.1 FrP_13) hK.1) FrP_13) hP.2.2.1) hP.2.1 (by rw [hP.2.2.2, jup_same, h13]))
        · rw [if_neg e3]
          have s3 := fun (K : Nat → Int → Int) (h : Mp K B n S.2.1 S.2.2.1 S.2.2.2) => ml_sign0 (G := G) (d := d + 7) (F := F) hsh hfx h c41 e3
          refine j_aload_n dX12_readAtom_0 rfl ?_
          refine j_bipush dX12_readAtom_1 (by decide) ?_
          refine r_cv1EI dX12_readAtom_3 cvX12_196 (by decide) (by first | assumption | exact hsh _ _ rfl) (Nat.le_of_ble_eq_true rfl) (Nat.le_of_eq (Nat.zero_add _)) (Nat.le_of_eq (Nat.zero_add _)) (sS) (fun J hJ => ?_)
          obtain ⟨-, hJ2⟩ := hJ
          have j13 := hJ2.2.2.trans h13
          refine j_if_eq (tgt := 56) dX12_readAtom_6 rfl (by first | omega | (split <;> omega)) (fun c_6 => by exact absurd c_6 (by decide)) (fun c_6 => ?_)
          refine j_aload_n dX12_readAtom_9 rfl ?_
          refine r_getIE dX12_readAtom_10 flX12_203 (by first | assumption | exact hsh _ _ rfl) j13 (fun b_10 => ?_)
          refine j_bipush dX12_readAtom_13 (by decide) ?_
          refine j_icmp_ne (tgt := 20) dX12_readAtom_15 rfl (by first | omega | (split <;> omega)) (by first | omega | (split <;> omega)) (fun c_15 => ?_) (fun c_15 => by exact absurd (Classical.not_not.1 c_15) (by omega))
          refine j_aload_n dX12_readAtom_20 rfl ?_
          refine j_dup dX12_readAtom_21 trivial ?_
          refine r_getIE dX12_readAtom_22 flX12_203 (by first | assumption | exact hsh _ _ rfl) j13 (fun b_22 => ?_)
          refine j_iconst dX12_readAtom_25 ?_
          refine j_iadd dX12_readAtom_26 ?_
          refine r_putI dX12_readAtom_27 flX12_203 rfl (by first | assumption | exact hsh _ _ rfl) (by first | omega | (split <;> omega)) (fun q => by cases q) ?_
          refine j_aload_n dX12_readAtom_30 rfl ?_
          refine r_cv0EI dX12_readAtom_31 cvX12_206 (by decide) (by first | assumption | exact hsh _ _ rfl) (Nat.le_of_ble_eq_true rfl) (Nat.le_of_eq (Nat.zero_add _)) (Nat.le_of_eq (Nat.zero_add _)) (sC _ (dn J j13) (Mp_13 hJ2.1)) (fun K hK => ?_)
          have hMK := hK.2.1 g1
          have k13 : K 170 13 = deep + 1 := by rw [hMK.2, jup_same]
          refine j_if_ne (tgt := 39) dX12_readAtom_34 rfl (by first | omega | (split <;> omega)) (fun c_34 => ?_) (fun c_34 => by exact absurd c_34 (by decide))
          refine j_aload_n dX12_readAtom_39 rfl ?_
          refine j_dup dX12_readAtom_40 trivial ?_
          refine r_getIE dX12_readAtom_41 flX12_203 (by first | assumption | exact hsh _ _ rfl) k13 (fun b_41 => ?_)
          refine j_iconst dX12_readAtom_44 ?_
          refine j_isub dX12_readAtom_45 ?_
          refine r_putI dX12_readAtom_46 flX12_203 rfl (by first | assumption | exact hsh _ _ rfl) (by first | omega | (split <;> omega)) (fun q => by cases q) ?_
          refine j_aload_n dX12_readAtom_49 rfl ?_
          refine j_bipush dX12_readAtom_50 (by decide) ?_
          rw [show deep + 1 - 1 = deep by omega]
          refine r_cv1EI dX12_readAtom_52 cvX12_196 (by decide) (by first | assumption | exact hsh _ _ rfl) (Nat.le_of_ble_eq_true rfl) (Nat.le_of_eq (Nat.zero_add _)) (Nat.le_of_eq (Nat.zero_add _)) (s3 _ (Mp_13 hMK.1)) (fun P hP => ?_)
          refine j_zret dX12_readAtom_55 rfl (by omega) ?_
          exact rEI_of rfl (pMd_0 (FrP_tr (FrP_tr (FrP_tr (FrP_tr hJ2.2.1 FrP_13) hK.1) FrP_13) hP.2.2.1) hP.1)
    · rw [if_neg e2]
      have sS := ml_sign0 (G := G) (d := d + 7) (F := F) hsh hfx hM c40 e2
      by_cases e : vWd B n q 18
      · rw [if_pos e]
        have ht := wd_s hq.1.2 e
        have sW := fun (J : Nat → Int → Int) (h : Mp J B n q m w) => ml_pass1 (G := G) (d := d + 4) (F := F) hsh hfx h (t := 18) (by decide) e
        have sD := fun (J : Nat → Int → Int) (h0 : J 170 13 = 6 - (g : Int)) (h1 : Mp J B n (tkN B n q) m w) => ihB J (tkN B n q) m w h0 h1 hm0 (by omega)
        have hag := hAg (tkN B n q) m w ht.2
        generalize pAtom B n g (tkN B n q) m w = S at *
        rcases hag with g0 | ⟨g1, g2, g3, g4, g5, -⟩
        · rw [pThen_f g0.1, g0.1]
          rw [g0.1] at sD
          refine j_aload_n dX12_readAtom_0 rfl ?_
          refine j_bipush dX12_readAtom_1 (by decide) ?_
          refine r_cv1EI dX12_readAtom_3 cvX12_196 (by decide) (by first | assumption | exact hsh _ _ rfl) (Nat.le_of_ble_eq_true rfl) (Nat.le_of_eq (Nat.zero_add _)) (Nat.le_of_eq (Nat.zero_add _)) (sS) (fun V hV => ?_)
          refine j_if_eq (tgt := 56) dX12_readAtom_6 rfl (by first | omega | (split <;> omega)) (fun c_6 => ?_) (fun c_6 => by exact absurd c_6 (by decide))
          refine j_aload_n dX12_readAtom_56 rfl ?_
          refine j_ldcS dX12_readAtom_57 (t := 18) (by decide +kernel) ?_
          refine r_cv1EI dX12_readAtom_59 cvX12_211 (by decide) (by first | assumption | exact hsh _ _ rfl) (Nat.le_of_ble_eq_true rfl) (Nat.le_of_eq (Nat.zero_add _)) (Nat.le_of_eq (Nat.zero_add _)) (sW V hV.2.1) (fun J hJ => ?_)
          obtain ⟨-, hJ2⟩ := hJ
          have j13 := (hJ2.2.2.trans hV.2.2.2).trans h13
          refine j_if_eq (tgt := 114) dX12_readAtom_62 rfl (by first | omega | (split <;> omega)) (fun c_62 => by exact absurd c_62 (by decide)) (fun c_62 => ?_)
          refine j_aload_n dX12_readAtom_65 rfl ?_
          refine r_getIE dX12_readAtom_66 flX12_203 (by first | assumption | exact hsh _ _ rfl) j13 (fun b_66 => ?_)
          refine j_bipush dX12_readAtom_69 (by decide) ?_
          refine j_icmp_ne (tgt := 76) dX12_readAtom_71 rfl (by first | omega | (split <;> omega)) (by first | omega | (split <;> omega)) (fun c_71 => ?_) (fun c_71 => by exact absurd (Classical.not_not.1 c_71) (by omega))
          refine j_aload_n dX12_readAtom_76 rfl ?_
          refine j_dup dX12_readAtom_77 trivial ?_
          refine r_getIE dX12_readAtom_78 flX12_203 (by first | assumption | exact hsh _ _ rfl) j13 (fun b_78 => ?_)
          refine j_iconst dX12_readAtom_81 ?_
          refine j_iadd dX12_readAtom_82 ?_
          refine r_putI dX12_readAtom_83 flX12_203 rfl (by first | assumption | exact hsh _ _ rfl) (by first | omega | (split <;> omega)) (fun q => by cases q) ?_
          refine j_aload_n dX12_readAtom_86 rfl ?_
          refine r_cv0EI dX12_readAtom_87 cvX12_214 (by decide) (by first | assumption | exact hsh _ _ rfl) (Nat.le_of_ble_eq_true rfl) (Nat.le_of_eq (Nat.zero_add _)) (Nat.le_of_eq (Nat.zero_add _)) (sD _ (dn J j13) (Mp_13 hJ2.1)) (fun K hK => ?_)
          refine j_if_ne (tgt := 95) dX12_readAtom_90 rfl (by first | omega | (split <;> omega)) (fun c_90 => by exact absurd c_90 (by decide)) (fun c_90 => ?_)
          refine j_iconst dX12_readAtom_93 ?_
          refine j_zret dX12_readAtom_94 rfl (by omega) ?_
          exact rEI_of rfl ⟨FrP_tr (FrP_tr (FrP_tr hV.2.2.1 hJ2.2.1) FrP_13) hK.1, fun h => absurd h (by rw [g0.1]; decide), hK.2.2⟩
        · rw [pThen_t g1]
          rw [g1] at sD
          have sE := fun (P : Nat → Int → Int) (h : Mp P B n S.2.1 S.2.2.1 S.2.2.2) => me_emits (G := G) (d := d + 9) (F := F) hsh hfx h.2.1 h.2.2 (by omega) (st := 11) (a := 0) (by decide) (by decide)
          refine j_aload_n dX12_readAtom_0 rfl ?_
          refine j_bipush dX12_readAtom_1 (by decide) ?_
          refine r_cv1EI dX12_readAtom_3 cvX12_196 (by decide) (by first | assumption | exact hsh _ _ rfl) (Nat.le_of_ble_eq_true rfl) (Nat.le_of_eq (Nat.zero_add _)) (Nat.le_of_eq (Nat.zero_add _)) (sS) (fun V hV => ?_)
          refine j_if_eq (tgt := 56) dX12_readAtom_6 rfl (by first | omega | (split <;> omega)) (fun c_6 => ?_) (fun c_6 => by exact absurd c_6 (by decide))
          refine j_aload_n dX12_readAtom_56 rfl ?_
          refine j_ldcS dX12_readAtom_57 (t := 18) (by decide +kernel) ?_
          refine r_cv1EI dX12_readAtom_59 cvX12_211 (by decide) (by first | assumption | exact hsh _ _ rfl) (Nat.le_of_ble_eq_true rfl) (Nat.le_of_eq (Nat.zero_add _)) (Nat.le_of_eq (Nat.zero_add _)) (sW V hV.2.1) (fun J hJ => ?_)
          obtain ⟨-, hJ2⟩ := hJ
          have j13 := (hJ2.2.2.trans hV.2.2.2).trans h13
          refine j_if_eq (tgt := 114) dX12_readAtom_62 rfl (by first | omega | (split <;> omega)) (fun c_62 => by exact absurd c_62 (by decide)) (fun c_62 => ?_)
          refine j_aload_n dX12_readAtom_65 rfl ?_
          refine r_getIE dX12_readAtom_66 flX12_203 (by first | assumption | exact hsh _ _ rfl) j13 (fun b_66 => ?_)
          refine j_bipush dX12_readAtom_69 (by decide) ?_
          refine j_icmp_ne (tgt := 76) dX12_readAtom_71 rfl (by first | omega | (split <;> omega)) (by first | omega | (split <;> omega)) (fun c_71 => ?_) (fun c_71 => by exact absurd (Classical.not_not.1 c_71) (by omega))
          refine j_aload_n dX12_readAtom_76 rfl ?_
          refine j_dup dX12_readAtom_77 trivial ?_
          refine r_getIE dX12_readAtom_78 flX12_203 (by first | assumption | exact hsh _ _ rfl) j13 (fun b_78 => ?_)
          refine j_iconst dX12_readAtom_81 ?_
          refine j_iadd dX12_readAtom_82 ?_
          refine r_putI dX12_readAtom_83 flX12_203 rfl (by first | assumption | exact hsh _ _ rfl) (by first | omega | (split <;> omega)) (fun q => by cases q) ?_
          refine j_aload_n dX12_readAtom_86 rfl ?_
          refine r_cv0EI dX12_readAtom_87 cvX12_214 (by decide) (by first | assumption | exact hsh _ _ rfl) (Nat.le_of_ble_eq_true rfl) (Nat.le_of_eq (Nat.zero_add _)) (Nat.le_of_eq (Nat.zero_add _)) (sD _ (dn J j13) (Mp_13 hJ2.1)) (fun K hK => ?_)
          have hMK := hK.2.1 g1
          have k13 : K 170 13 = deep + 1 := by rw [hMK.2, jup_same]
          refine j_if_ne (tgt := 95) dX12_readAtom_90 rfl (by first | omega | (split <;> omega)) (fun c_90 => ?_) (fun c_90 => by exact absurd c_90 (by decide))
          refine j_aload_n dX12_readAtom_95 rfl ?_
          refine j_dup dX12_readAtom_96 trivial ?_
          refine r_getIE dX12_readAtom_97 flX12_203 (by first | assumption | exact hsh _ _ rfl) k13 (fun b_97 => ?_)
          refine j_iconst dX12_readAtom_100 ?_
          refine j_isub dX12_readAtom_101 ?_
          refine r_putI dX12_readAtom_102 flX12_203 rfl (by first | assumption | exact hsh _ _ rfl) (by first | omega | (split <;> omega)) (fun q => by cases q) ?_
          refine j_aload_n dX12_readAtom_105 rfl ?_
          refine j_bipush dX12_readAtom_106 (by decide) ?_
          refine j_iconst dX12_readAtom_108 ?_
          rw [show deep + 1 - 1 = deep by omega]
          refine r_cv2EV dX12_readAtom_109 cvX12_185 (by decide) (by first | assumption | exact hsh _ _ rfl) (Nat.le_of_ble_eq_true rfl) (Nat.le_of_eq (Nat.zero_add _)) (Nat.le_of_eq (Nat.zero_add _)) (sE _ (Mp_13 hMK.1)) (fun N hN => ?_)
          have hM13 := Mp_13 (x := deep) hMK.1
          have hQ := em_Q hN hM13.2.1 (by omega)
          refine j_iconst dX12_readAtom_112 ?_
          refine j_zret dX12_readAtom_113 rfl (by omega) ?_
          exact rEI_of rfl (pMd_1 (FrP_tr (FrP_tr (FrP_tr (FrP_tr (FrP_tr hV.2.2.1 hJ2.2.1) FrP_13) hK.1) FrP_13) hQ.2.1) (Mp_em hM13 hN) (by rw [hQ.2.2, jup_same, h13]))
      · rw [if_neg e]
        have sW := fun (J : Nat → Int → Int) (h : Mp J B n q m w) => ml_pass0 (G := G) (d := d + 4) (F := F) hsh hfx h (t := 18) (by decide) e
        refine j_aload_n dX12_readAtom_0 rfl ?_
        refine j_bipush dX12_readAtom_1 (by decide) ?_
        refine r_cv1EI dX12_readAtom_3 cvX12_196 (by decide) (by first | assumption | exact hsh _ _ rfl) (Nat.le_of_ble_eq_true rfl) (Nat.le_of_eq (Nat.zero_add _)) (Nat.le_of_eq (Nat.zero_add _)) (sS) (fun J hJ => ?_)
        refine j_if_eq (tgt := 56) dX12_readAtom_6 rfl (by first | omega | (split <;> omega)) (fun c_6 => ?_) (fun c_6 => by exact absurd c_6 (by decide))
        refine j_aload_n dX12_readAtom_56 rfl ?_
        refine j_ldcS dX12_readAtom_57 (t := 18) (by decide +kernel) ?_
        refine r_cv1EI dX12_readAtom_59 cvX12_211 (by decide) (by first | assumption | exact hsh _ _ rfl) (Nat.le_of_ble_eq_true rfl) (Nat.le_of_eq (Nat.zero_add _)) (Nat.le_of_eq (Nat.zero_add _)) (sW J hJ.2.1) (fun K hK => ?_)
        refine j_if_eq (tgt := 114) dX12_readAtom_62 rfl (by first | omega | (split <;> omega)) (fun c_62 => ?_) (fun c_62 => by exact absurd c_62 (by decide))
        exact ml_tag (d := d + 3) hsh hfx hK.2.1 ⟨hm0, hmq⟩ (FrP_tr hJ.2.2.1 hK.2.2.1) (by rw [hK.2.2.2, hJ.2.2.2])
end
