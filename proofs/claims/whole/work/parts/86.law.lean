/-! LAW -/
/-- what a call leaves of the class: the cells up to N were there before -/
def CaL (N : Nat) (sh : List (Nat × Nat)) (I M J : Nat → Int → Int) (F' : Nat → Int → Option Nat) : Prop := Pl sh F' ∧ CR sh J F' M ∧ (∀ a, 170 ≤ a → a < N → J a = I a) ∧ J 159 0 = I 159 0
theorem CaL_O {N : Nat} {sh : List (Nat × Nat)} {I M J : Nat → Int → Int} {F' : Nat → Int → Option Nat} (h : CaO sh I M J F') : CaL N sh I M J F' := ⟨h.1, h.2.1, fun a a0 _ => h.2.2 a (Or.inl a0), by rw [h.2.2 159 (Or.inr rfl)]⟩
theorem CR_L {sh X : List (Nat × Nat)} {I J M : Nat → Int → Int} {F F' : Nat → Int → Option Nat} {v : Int → Int} (h : CR sh I F M) (hs : Sr (sh ++ X) J F' 2 v) (h0 : J 0 6 = I 0 6) (h01 : J 0 1 = 0) (h02 : J 0 2 = -1) (h1 : J 1 = I 1) (h22 : ∀ a, 22 ≤ a → a < 32 → J a = I a) (hJ : ∀ a, 185 ≤ a → a < sh.length → J a = I a) (hF22 : F' 22 18 = F 22 18) (hF : ∀ a, 185 ≤ a → a < sh.length → F' a = F a) (h32 : J 32 1 = 0) (h322 : J 32 2 = I 32 2) : CR (sh ++ X) J F' (mzK M v (-1) 0) := by
  obtain ⟨a1, a2, a3, ⟨m1, m2, m3, m4⟩, t1, t2, t3, t4⟩ := h
  refine ⟨hs, by rw [mzK_6, h0]; exact a2, fun q => ?_, ⟨by rw [mzK_7]; exact h32, by rw [mzK_7]; omega, by rw [h322]; exact m3, fun j j0 j1 => ?_⟩, by rw [mzK_9]; exact h01, by rw [mzK_9]; omega, by rw [mzK_14]; exact h02, ?_⟩
  · rw [mzK_6] at q
    rw [mzK_o (by decide) (by decide)]
    exact Sr_app (a3 q) (fun a b0 b1 => h22 a (by omega) (by omega)) hF22 hJ hF
  · rw [mzK_7] at j1
    omega
  · rw [h1, mzK_o (by decide) (by decide)]; exact t4
section
variable {G : jzG} {d : Nat} {sh : List (Nat × Nat)} {I M : Nat → Int → Int} {F : Nat → Int → Option Nat} {B : Int → Int} {n q m : Int} {w : Int → Int}
/-- the reader begins anew -/
theorem Lr_new {I1 : Nat → Int → Int} (h : I1 = jup (jup (jup I 156 3 0) 156 4 0) 156 5 0) (hT : Tx I B n q) : Tx I1 B n q ∧ LrC I1 0 w ∧ LrA I1 0 w ∧ I1 156 4 = 0 ∧ FrM I I1 := by
  have f : ∀ a, a ≠ 156 → I1 a = I a := fun a ha => by rw [h, jup_ne _ _ _ ha, jup_ne _ _ _ ha, jup_ne _ _ _ ha]
  refine ⟨Tx_fr hT (f 154 (by decide)) (f 155 (by decide)), ⟨by rw [h, jup_row _ _ _ (by decide), jup_row _ _ _ (by decide), jup_same], fun i i0 i1 => by omega⟩, ⟨fun j j0 j1 => by omega, by rw [h, jup_same]; decide, fun j j0 j1 => ?_⟩, by rw [h, jup_row _ _ _ (by decide), jup_same], fun a _ a1 _ _ _ => f a a1, by rw [f 159 (by decide)]⟩
  rw [h, jup_same]
  exact ⟨fun h => absurd h (jbit_0 j0 (by omega)), fun h => by omega⟩
theorem FrM_tr {J K : Nat → Int → Int} (h : FrM I J) (h2 : FrM J K) : FrM I K := ⟨fun a a0 a1 a2 a3 a4 => (h2.1 a a0 a1 a2 a3 a4).trans (h.1 a a0 a1 a2 a3 a4), h2.2.trans h.2⟩
theorem sl_read0 (hsh : ShOK sh) (hfx : FxOK F) (hT : Tx I B n q) (h159 : I 159 0 = 0) {R : pR} (hR : pTxt B n q w = R) (h : R.1 = -1) : jS G (d + 24) mX6_read [jR (some 156), jR (some 154)] (sh, I, F) 0 0 (fun o h => ∃ J, o = .inl (some (jR none)) ∧ h = (sh, J, F) ∧ Tx J B n R.2.1 ∧ FrM I J) := by
  obtain ⟨I1, hI1⟩ : ∃ x, x = jup (jup (jup I 156 3 0) 156 4 0) 156 5 0 := ⟨_, rfl⟩
  obtain ⟨n1, n2, n3, n4, n5⟩ := Lr_new (w := w) hI1 hT
  have sE := st_isEnd (G := G) (d := d + 23) (F := F) hsh n1
  have c : ¬ tkK B n q = 0 := fun c => by
    have e : pTxt B n q w = (0, q, 0, w) := if_pos c
    rw [← hR, e] at h
    exact absurd h (show ¬ (0 : Int) = -1 by decide)
  have e : pTxt B n q w = pLns B n 12 0 q 0 w := if_neg c
  rw [e] at hR
  have sL := fun (Q : jzO → jzH → Prop) (rc rs : Nat) => sl_lines (G := G) (d := d) (F := F) (Q := Q) (rc := rc) (rs := rs) hsh hfx n1 n2 n3 n4 (by rw [n5.2]; exact h159)
  rw [hR] at sL
  rw [if_neg c] at sE
  refine jS_go [some (jR (some 156)), some (jR (some 154)), none] (by decide +kernel) rfl (by simp [jone]) (Nat.le_of_ble_eq_true rfl) rfl (fun hok => ?_)
  refine j_aload_n dX6_read_0 rfl ?_
  refine j_iconst dX6_read_1 ?_
  refine r_putI dX6_read_2 flX6_21 rfl (by first | assumption | exact hsh _ _ rfl) (by first | omega | (split <;> omega)) (fun q => by cases q) ?_
  refine j_aload_n dX6_read_5 rfl ?_
  refine j_iconst dX6_read_6 ?_
  refine r_putI dX6_read_7 flX6_25 rfl (by first | assumption | exact hsh _ _ rfl) (by first | omega | (split <;> omega)) (fun q => by cases q) ?_
  refine j_aload_n dX6_read_10 rfl ?_
  refine j_iconst dX6_read_11 ?_
  refine r_putI dX6_read_12 flX6_28 rfl (by first | assumption | exact hsh _ _ rfl) (by first | omega | (split <;> omega)) (fun q => by cases q) ?_
  rw [← hI1]
  refine j_aload_n dX6_read_15 rfl ?_
  refine r_cv0I dX6_read_16 cvX6_31 (by decide) (by first | assumption | exact hsh _ _ rfl) (Nat.le_of_ble_eq_true rfl) (Nat.le_of_eq (Nat.zero_add _)) (Nat.le_of_eq (Nat.zero_add _)) (sE) ?_
  refine j_if_ne (tgt := 26) dX6_read_19 rfl (by first | omega | (split <;> omega)) (fun c_19 => by exact absurd c_19 (by decide)) (fun c_19 => ?_)
  refine j_iconst dX6_read_22 ?_
  refine j_goto (tgt := 27) dX6_read_23 rfl ?_
  refine j_istore_n dX6_read_27 (by decide) ?_
  exact sL _ _ _ (fun _ J hJ => ⟨J, rfl, rfl, hJ.1, FrM_tr n5 hJ.2.2⟩) (fun hn => absurd h hn)
/-- a new law's cells -/
abbrev lwX (m : Int) : List (Nat × Nat) := [(2, 0), (11, m.toNat), (11, 12), (11, 13)]
def rdL (sh : List (Nat × Nat)) (I : Nat → Int → Int) (F : Nat → Int → Option Nat) (c m : Int) (v : Int → Int) : jzO → jzH → Prop := fun o h => ∃ J F', o = .inl (some (jR (some sh.length))) ∧ h = (sh ++ lwX m, J, F') ∧ LawAt (sh ++ lwX m) J F' sh.length (wLaw v c) ∧ J sh.length 0 = c ∧ (∀ a, a < sh.length → a ≠ 154 → a ≠ 156 → a ≠ 157 → a ≠ 158 → a ≠ 159 → J a = I a) ∧ J 159 0 = I 159 0 ∧ ∀ a, a < sh.length → F' a = F a
theorem sl_read1 (hsh : ShOK sh) (hfx : FxOK F) (hT : Tx I B n q) (h159 : I 159 0 = 0) {R : pR} (hR : pTxt B n q w = R) (h : 0 ≤ R.1) : jS G (d + 24) mX6_read [jR (some 156), jR (some 154)] (sh, I, F) 4 430 (rdL sh I F R.1 R.2.2.1 R.2.2.2) := by
  have t8 := hT.2.2.2.2.2.2.2
  have hg := pTxt_g (B := B) (n := n) (w := w) t8.1 t8.2
  rw [hR] at hg
  obtain ⟨g1, g2, g3, g4⟩ : R.1 ≤ 12 ∧ (0 ≤ R.2.2.1 ∧ R.2.2.1 ≤ 398) ∧ (∀ j, 0 ≤ j → j < R.1 → dLn R.2.2.2 j R.2.2.1) ∧ ∀ i, i < 1270 → R.2.2.2 i = w i := by
    rcases hg.1 with h1 | h1
    · omega
    · exact h1.2
  obtain ⟨I1, hI1⟩ : ∃ x, x = jup (jup (jup I 156 3 0) 156 4 0) 156 5 0 := ⟨_, rfl⟩
  obtain ⟨n1, n2, n3, n4, n5⟩ := Lr_new (w := w) hI1 hT
  have sE := st_isEnd (G := G) (d := d + 23) (F := F) hsh n1
  have hlen := ShOK_len hsh
  refine jS_go [some (jR (some 156)), some (jR (some 154)), none] (by decide +kernel) rfl (by simp [jone]) (Nat.le_of_ble_eq_true rfl) rfl (fun hok => ?_)
  generalize hQ : rdL sh I F R.1 R.2.2.1 R.2.2.2 = Q9
  -- the law is made
  have fin : ∀ (J : Nat → Int → Int) (o2 : Option jzV), LrC J R.2.2.1 R.2.2.2 → LrA J R.1 R.2.2.2 → LrS J R.1 R.2.2.2 → J 156 4 = R.1 → FrM I J → jW G mX6_read (d + 24) Q9 101 [some (jR (some 156)), some (jR (some 154)), o2] [] (sh, J, F) 4 430 := by
    intro J o2 hC hA hS h4 hf
    obtain ⟨c, hc⟩ : ∃ x, R.1 = x := ⟨_, rfl⟩
    obtain ⟨m, hm⟩ : ∃ x, R.2.2.1 = x := ⟨_, rfl⟩
    obtain ⟨v, hv⟩ : ∃ x, R.2.2.2 = x := ⟨_, rfl⟩
    rw [hc] at hA hS h4 g1 g3 h hQ
    rw [hm] at hC g2 g3 hQ
    rw [hv] at hC hA hS g3 hQ
    obtain ⟨c1, c2⟩ := hC
    obtain ⟨b1, b2, b3⟩ := hA
    obtain ⟨l, hl⟩ : ∃ x, x = sh.length := ⟨_, rfl⟩
    obtain ⟨s1, hs1⟩ : ∃ x, x = sh ++ [(2, 0)] := ⟨_, rfl⟩
    obtain ⟨J1, hJ1⟩ : ∃ x, x = jnw J l 0 := ⟨_, rfl⟩
    obtain ⟨F1, hF1⟩ : ∃ x, x = jnw F l none := ⟨_, rfl⟩
    have e1 : jzNew (sh, J, F) 2 0 = (s1, J1, F1) := by rw [hs1, hJ1, hF1, hl]; rfl
    have l1 : s1.length = l + 1 := by rw [hs1, hl, List.length_append]; rfl
    have j1 : ∀ a, a ≠ l → J1 a = J a := fun a ha => by rw [hJ1]; exact jnw_o ha
    have f1 : ∀ a, a ≠ l → F1 a = F a := fun a ha => by rw [hF1]; exact jnw_o ha
    have hsh1 : ShOK s1 := by rw [hs1]; exact ShOK_app hsh
    have hfx1 : FxOK F1 := FxOK_eq hfx (fun a ha => f1 a (by omega))
    obtain ⟨s2, hs2⟩ : ∃ x, x = s1 ++ [(11, m.toNat)] := ⟨_, rfl⟩
    obtain ⟨J2, hJ2⟩ : ∃ x, x = jcp (jnw J1 (l + 1) 0) 157 0 (l + 1) 0 m := ⟨_, rfl⟩
    obtain ⟨F2, hF2⟩ : ∃ x, x = jnw F1 (l + 1) none := ⟨_, rfl⟩
    have l2 : s2.length = l + 1 + 1 := by rw [hs2, ← l1, List.length_append]; rfl
    have j2 : ∀ a, a ≠ l + 1 → J2 a = J1 a := fun a ha => by rw [hJ2, jcp_ne ha, jnw_o ha]
    have j2c : ∀ k, 0 ≤ k → k < m → J2 (l + 1) k = J1 157 k := fun k k0 k1 => by rw [hJ2, jcp_in k0 k1, jnw_o (by omega)]
    have f2 : ∀ a, a ≠ l + 1 → F2 a = F1 a := fun a ha => by rw [hF2]; exact jnw_o ha
    have hsh2 : ShOK s2 := by rw [hs2]; exact ShOK_app hsh1
    have sCp := sj_copyOf (G := G) (d := d + 23) (I := J1) (F := F1) (m := m) (hsh1 157 (11, 400) rfl) (by omega) (by decide)
    rw [l1, ← hs2, ← hJ2, ← hF2] at sCp
    obtain ⟨dr, hdr⟩ : ∃ x, J 156 5 = x := ⟨_, rfl⟩
    have hl2 : s2[l]? = some (2, 0) := by rw [hs2, hs1, hl]; exact get_app get_end
    have sIn := sc_lawInit (G := G) (d := d + 23) (I := J2) (F := F2) (l := l) (c := l + 1) (a := c) (b := dr) hl2 (hsh2 158 (11, 12) rfl) (hsh2 159 (11, 13) rfl) (by omega) (by omega)
    rw [l2] at sIn
    obtain ⟨J3, hJ3⟩ : ∃ x, x = clI (clI (jup (jup J2 l 0 c) l 1 dr) 158 (l + 1 + 1)) 159 (l + 1 + 1 + 1) := ⟨_, rfl⟩
    obtain ⟨F3, hF3⟩ : ∃ x, x = jup (jup (jnw (jup (jnw F2 (l + 1 + 1) none) l 2 (some (l + 1 + 1))) (l + 1 + 1 + 1) none) l 3 (some (l + 1 + 1 + 1))) l 4 (some (l + 1)) := ⟨_, rfl⟩
    rw [← hJ3, ← hF3] at sIn
    have e3 : s2 ++ [(11, 12)] ++ [(11, 13)] = sh ++ lwX m := by rw [hs2, hs1]; simp [lwX]
    rw [e3] at sIn
    have q37 : J1 156 4 = c := by rw [j1 156 (by omega)]; exact h4
    have q41 : J1 156 5 = dr := by rw [j1 156 (by omega)]; exact hdr
    have q57 : J1 156 3 = m := by rw [j1 156 (by omega)]; exact c1
    -- what lies in the law's cells
    have o3 : ∀ a, a < l → J3 a = J a := fun a ha => by rw [hJ3, clI_o (by omega), clI_o (by omega), jup_ne _ _ _ (by omega), jup_ne _ _ _ (by omega), j2 a (by omega), j1 a (by omega)]
    have o3F : ∀ a, a < l → F3 a = F a := fun a ha => by
      have e : ∀ (H : Nat → Int → Option Nat) (k : Int) (r : Option Nat), jup H l k r a = H a := fun H k r => by funext b; exact jup_cell _ _ _ _ (by omega)
      rw [hF3, e, e, jnw_o (by omega), e, jnw_o (by omega), f2 a (by omega), f1 a (by omega)]
    have i0 : J3 l 0 = c := by rw [hJ3, clI_o (by omega), clI_o (by omega), jup_row _ _ _ (by decide), jup_same]
    have i1 : J3 l 1 = dr := by rw [hJ3, clI_o (by omega), clI_o (by omega), jup_same]
    have ia : J3 (l + 1 + 1) = J 158 := by rw [hJ3, clI_o (by omega), clI_s, jup_ne _ _ _ (by omega), jup_ne _ _ _ (by omega), j2 158 (by omega), j1 158 (by omega)]
    have is : J3 (l + 1 + 1 + 1) = J 159 := by rw [hJ3, clI_s, clI_o (by omega), jup_ne _ _ _ (by omega), jup_ne _ _ _ (by omega), j2 159 (by omega), j1 159 (by omega)]
    have ic : ∀ k, 0 ≤ k → k < m → J3 (l + 1) k = J 157 k := fun k k0 k1 => by rw [hJ3, clI_o (by omega), clI_o (by omega), jup_ne _ _ _ (by omega), jup_ne _ _ _ (by omega), j2c k k0 k1, j1 157 (by omega)]
    have fa : F3 l 2 = some (l + 1 + 1) := by rw [hF3, jup_row _ _ _ (by decide), jup_row _ _ _ (by decide), jnw_o (by omega), jup_same]
    have fs : F3 l 3 = some (l + 1 + 1 + 1) := by rw [hF3, jup_row _ _ _ (by decide), jup_same]
    have fc : F3 l 4 = some (l + 1) := by rw [hF3, jup_same]
    have g0 : (sh ++ lwX m)[l]? = some (2, 0) := by rw [hl]; exact get_end
    have gc : (sh ++ lwX m)[l + 1]? = some (11, m.toNat) := by
      rw [hl, List.getElem?_append_right (by omega), show sh.length + 1 - sh.length = 1 by omega]; rfl
    have ga : (sh ++ lwX m)[l + 1 + 1]? = some (11, 12) := by
      rw [hl, List.getElem?_append_right (by omega), show sh.length + 1 + 1 - sh.length = 2 by omega]; rfl
    have gs : (sh ++ lwX m)[l + 1 + 1 + 1]? = some (11, 13) := by
      rw [hl, List.getElem?_append_right (by omega), show sh.length + 1 + 1 + 1 - sh.length = 3 by omega]; rfl
    have hLaw : LawAt (sh ++ lwX m) J3 F3 l (wLaw v c) := by
      refine ⟨g0, by omega, l + 1 + 1, l + 1 + 1 + 1, l + 1, m.toNat, ⟨fa, fs, fc⟩, ⟨by omega, by omega, by omega⟩, ⟨ga, gs, gc⟩, by rw [wLaw_n]; exact i0, fun k k0 k1 => ?_⟩
      rw [wLaw_n] at k1
      have d := g3 k k0 k1
      have x0 : wLaw v c (421 + 4 * k) = v (1270 + 4 * k) := by rw [wLaw_t (by omega)]; congr 1; omega
      have x1 : wLaw v c (421 + 4 * k + 1) = v (1270 + 4 * k + 1) := by rw [wLaw_t (by omega)]; congr 1; omega
      have x2 : wLaw v c (421 + 4 * k + 2) = v (1270 + 4 * k + 2) := by rw [wLaw_t (by omega)]; congr 1; omega
      have x3 : wLaw v c (421 + 4 * k + 3) = v (1270 + 4 * k + 3) := by rw [wLaw_t (by omega)]; congr 1; omega
      have s9 := hS k k0 k1
      obtain ⟨⟨d1, d2, d3⟩, -⟩ := d
      rw [i1, ia, is, x0, x1, x2, x3]
      refine ⟨?_, b1 k k0 k1, s9.1, s9.2, by omega, fun i p0 p1 p2 => ?_⟩
      · have := b3 k k0 (by omega)
        rw [hdr] at this
        rw [this]
        exact ⟨fun h => h.2, fun h => ⟨k1, h⟩⟩
      · have ys : aStp (wLaw v c) i = dStp v i := by show wLaw v c (469 + 2 * i) = v (1318 + 2 * i); rw [wLaw_t (by omega)]; congr 1; omega
        have ya : aArg (wLaw v c) i = dArg v i := by show wLaw v c (469 + 2 * i + 1) = v (1318 + 2 * i + 1); rw [wLaw_t (by omega)]; congr 1; omega
        rw [ys, ya, ic i p0 (by omega)]
        exact c2 i p0 (by omega)
    have hN5 : jzN 2 = 5 := rfl
    refine j_less (rc' := 3 + 1) (rs' := (m.toNat + 25) + jzN 2) (by omega) (by rw [hN5]; omega) ?_
    refine j_new (h := (sh, J, F)) dX6_read_101 (ci := 2) (by decide) clX6_45 wi_2 wn_2 ?_
    rw [e1, show ((sh, J, F) : jzH).1.length = l from hl.symm]
    have hsh := hsh1
    have hfx := hfx1
    refine j_dup dX6_read_104 trivial ?_
    refine j_aload_n dX6_read_105 rfl ?_
    refine r_getIE dX6_read_106 flX6_25 (by first | assumption | exact hsh _ _ rfl) q37 (fun b_106 => ?_)
    refine j_aload_n dX6_read_109 rfl ?_
    refine r_getIE dX6_read_110 flX6_28 (by first | assumption | exact hsh _ _ rfl) q41 (fun b_110 => ?_)
    refine j_aload_n dX6_read_113 rfl ?_
    refine r_getS dX6_read_114 flX6_15 (by first | assumption | exact hsh _ _ rfl) (fx_156_1 hfx) ?_
    refine j_aload_n dX6_read_117 rfl ?_
    refine r_getS dX6_read_118 flX6_18 (by first | assumption | exact hsh _ _ rfl) (fx_156_2 hfx) ?_
    refine j_aload_n dX6_read_121 rfl ?_
    refine r_getS dX6_read_122 flX6_9 (by first | assumption | exact hsh _ _ rfl) (fx_156_0 hfx) ?_
    refine j_aload_n dX6_read_125 rfl ?_
    refine r_getIE dX6_read_126 flX6_21 (by first | assumption | exact hsh _ _ rfl) q57 (fun b_126 => ?_)
    refine r_cs2R (rc' := 2) (rs' := 25) dX6_read_129 csX6_47 (Nat.le_of_ble_eq_true rfl) (by omega) (by omega) sCp ?_
    refine j_callI (h := (s2, J2, F2)) (As := [jI c, jI dr, jR (some 158), jR (some 159), jR (some (l + 1))]) (rc' := 0) (rs' := 0) dX6_read_132 ciX6_53 rfl (Nat.le_of_ble_eq_true rfl) (by omega) (by omega) sIn ?_
    refine j_aret dX6_read_135 rfl (Or.inl ⟨_, rfl⟩) ?_
    rw [← hQ, hl] at *
    exact ⟨J3, F3, rfl, rfl, hLaw, i0, fun a a0 x0 x1 x2 x3 x4 => (o3 a a0).trans (hf.1 a x0 x1 x2 x3 x4), by rw [o3 159 (by omega)]; exact hf.2, o3F⟩
  by_cases c : tkK B n q = 0
  · have e : pTxt B n q w = (0, q, 0, w) := if_pos c
    rw [e] at hR
    rw [if_pos c] at sE
    subst hR
    refine j_aload_n dX6_read_0 rfl ?_
    refine j_iconst dX6_read_1 ?_
    refine r_putI dX6_read_2 flX6_21 rfl (by first | assumption | exact hsh _ _ rfl) (by first | omega | (split <;> omega)) (fun q => by cases q) ?_
    refine j_aload_n dX6_read_5 rfl ?_
    refine j_iconst dX6_read_6 ?_
    refine r_putI dX6_read_7 flX6_25 rfl (by first | assumption | exact hsh _ _ rfl) (by first | omega | (split <;> omega)) (fun q => by cases q) ?_
    refine j_aload_n dX6_read_10 rfl ?_
    refine j_iconst dX6_read_11 ?_
    refine r_putI dX6_read_12 flX6_28 rfl (by first | assumption | exact hsh _ _ rfl) (by first | omega | (split <;> omega)) (fun q => by cases q) ?_
    rw [← hI1]
    refine j_aload_n dX6_read_15 rfl ?_
    refine r_cv0I dX6_read_16 cvX6_31 (by decide) (by first | assumption | exact hsh _ _ rfl) (Nat.le_of_ble_eq_true rfl) (Nat.le_of_eq (Nat.zero_add _)) (Nat.le_of_eq (Nat.zero_add _)) (sE) ?_
    refine j_if_ne (tgt := 26) dX6_read_19 rfl (by first | omega | (split <;> omega)) (fun c_19 => ?_) (fun c_19 => by exact absurd c_19 (by decide))
    refine j_iconst dX6_read_26 ?_
    refine j_istore_n dX6_read_27 (by decide) ?_
    refine j_iload_n dX6_read_28 rfl ?_
    refine j_if_eq (tgt := 88) dX6_read_29 rfl (by first | omega | (split <;> omega)) (fun c_29 => ?_) (fun c_29 => by exact absurd rfl c_29)
    refine j_iload_n dX6_read_88 rfl ?_
    refine j_if_ne (tgt := 99) dX6_read_89 rfl (by first | omega | (split <;> omega)) (fun c_89 => by exact absurd rfl c_89) (fun c_89 => ?_)
    refine j_aload_n dX6_read_92 rfl ?_
    refine r_cv0I dX6_read_93 cvX6_31 (by decide) (by first | assumption | exact hsh _ _ rfl) (Nat.le_of_ble_eq_true rfl) (Nat.le_of_eq (Nat.zero_add _)) (Nat.le_of_eq (Nat.zero_add _)) (sE) ?_
    refine j_if_ne (tgt := 101) dX6_read_96 rfl (by first | omega | (split <;> omega)) (fun c_96 => ?_) (fun c_96 => by exact absurd c_96 (by decide))
    exact fin I1 _ n2 n3 (fun j j0 j1 => by have j2 : j < 0 := j1; omega) n4 n5
  · have e : pTxt B n q w = pLns B n 12 0 q 0 w := if_neg c
    rw [e] at hR
    have sL := fun (Q : jzO → jzH → Prop) (rc rs : Nat) => sl_lines (G := G) (d := d) (F := F) (Q := Q) (rc := rc) (rs := rs) hsh hfx n1 n2 n3 n4 (by rw [n5.2]; exact h159)
    rw [hR] at sL
    rw [if_neg c] at sE
    refine j_aload_n dX6_read_0 rfl ?_
    refine j_iconst dX6_read_1 ?_
    refine r_putI dX6_read_2 flX6_21 rfl (by first | assumption | exact hsh _ _ rfl) (by first | omega | (split <;> omega)) (fun q => by cases q) ?_
    refine j_aload_n dX6_read_5 rfl ?_
    refine j_iconst dX6_read_6 ?_
    refine r_putI dX6_read_7 flX6_25 rfl (by first | assumption | exact hsh _ _ rfl) (by first | omega | (split <;> omega)) (fun q => by cases q) ?_
    refine j_aload_n dX6_read_10 rfl ?_
    refine j_iconst dX6_read_11 ?_
    refine r_putI dX6_read_12 flX6_28 rfl (by first | assumption | exact hsh _ _ rfl) (by first | omega | (split <;> omega)) (fun q => by cases q) ?_
    rw [← hI1]
    refine j_aload_n dX6_read_15 rfl ?_
    refine r_cv0I dX6_read_16 cvX6_31 (by decide) (by first | assumption | exact hsh _ _ rfl) (Nat.le_of_ble_eq_true rfl) (Nat.le_of_eq (Nat.zero_add _)) (Nat.le_of_eq (Nat.zero_add _)) (sE) ?_
    refine j_if_ne (tgt := 26) dX6_read_19 rfl (by first | omega | (split <;> omega)) (fun c_19 => by exact absurd c_19 (by decide)) (fun c_19 => ?_)
    refine j_iconst dX6_read_22 ?_
    refine j_goto (tgt := 27) dX6_read_23 rfl ?_
    refine j_istore_n dX6_read_27 (by decide) ?_
    exact sL _ _ _ (fun hn => absurd hn (by omega)) (fun _ K o hK => by have hk := hK.2.1 h; exact fin K o hk.1 hk.2.1 hk.2.2.1 hk.2.2.2 (FrM_tr n5 hK.2.2))
end
