/-! BOTH ARE CALLED: texts, what is remembered, images -/
section
variable {G : jzG} {sh : List (Nat × Nat)} {I : Nat → Int → Int} {F : Nat → Int → Option Nat} {b c r : Int} {Mc Mm : jzM} {T : List String} {As : List jzV}
/-- something is thrown, and the tape was used -/
theorem PrC_h {E : String} {M' : Nat → Int → Int} (hc : jS G 40 Mc (jR (some 0) :: As) (sh, I, F) 1 6 (rHX E sh (CaL sh.length sh I M'))) (c0 : 0 < c) (hT : T[(c - 1).toNat]? = some E) (hm : ∀ (X : List (Nat × Nat)) (J : Nat → Int → Int) (F' : Nat → Int → Option Nat), Pl (sh ++ X) F' → Ag I J → jS G 40 Mm (jR (some 170) :: As) (sh ++ X, J, F') 0 0 (rEI r (sh ++ X) F' (MdP b c M' J))) : PrC G Mc Mm T As sh I F b := by
  refine ⟨c, r, M', 1, 6, ⟨by omega, by omega, jS_mono hc (fun o h ⟨J, F', h1, h2, h3⟩ => ⟨[], J, F', by rw [List.append_nil]; exact h2, by rw [List.append_nil]; exact h3, Or.inr ⟨c0, E, h1, hT⟩⟩)⟩, fun X J F' hP hA => jS_mono (hm X J F' hP hA) (fun o h ⟨K, h1, h2, h3⟩ => ⟨K, r, h1, h2, fun _ => rfl, h3⟩)⟩
/-- an answer, whatever of the cells has changed -/
theorem PrC_j {M' : Nat → Int → Int} {F1 : Nat → Int → Option Nat} {P : (Nat → Int → Int) → Prop} (hP : ∀ J, P J → CaL sh.length sh I M' J F1) (hc : jS G 40 Mc (jR (some 0) :: As) (sh, I, F) 0 0 (rEI r sh F1 P)) (hm : ∀ (X : List (Nat × Nat)) (J : Nat → Int → Int) (F' : Nat → Int → Option Nat), Pl (sh ++ X) F' → Ag I J → jS G 40 Mm (jR (some 170) :: As) (sh ++ X, J, F') 0 0 (rEI r (sh ++ X) F' (MdP b 0 M' J))) : PrC G Mc Mm T As sh I F b := by
  refine ⟨0, r, M', 0, 0, ⟨by omega, by omega, jS_mono hc (fun o h ⟨J, h1, h2, h3⟩ => ⟨[], J, F1, by rw [List.append_nil]; exact h2, by rw [List.append_nil]; exact hP J h3, Or.inl ⟨rfl, h1⟩⟩)⟩, fun X J F' hP hA => jS_mono (hm X J F' hP hA) (fun o h ⟨K, h1, h2, h3⟩ => ⟨K, r, h1, h2, fun _ => rfl, h3⟩)⟩
theorem jS_EI {M : jzM} {h : jzH} {mc ms d : Nat} {s : List (Nat × Nat)} {J : Nat → Int → Int} {H : Nat → Int → Option Nat} {P : (Nat → Int → Int) → Prop} (k : jS G d M As h mc ms (rI r (s, J, H))) (hp : P J) : jS G d M As h mc ms (rEI r s H P) := jS_mono k (fun _ _ ⟨h1, h2⟩ => ⟨J, h1, h2, hp⟩)
theorem jS_EP {M : jzM} {h : jzH} {mc ms d : Nat} {s : List (Nat × Nat)} {H : Nat → Int → Option Nat} {P P' : (Nat → Int → Int) → Prop} (k : jS G d M As h mc ms (rEI r s H P)) (hp : ∀ J, P J → P' J) : jS G d M As h mc ms (rEI r s H P') := jS_mono k (fun _ _ ⟨J, h1, h2, h3⟩ => ⟨J, h1, h2, hp J h3⟩)
theorem pr_net (hI : INV b sh I F) (hb : 0 ≤ b ∧ b ≤ 800000000) : PrC G mX11_net mX12_net [] [] sh I F (b + 140000) := by
  obtain ⟨hP, hC, hM, h159⟩ := id hI
  obtain ⟨hsh, hfx, hmm, hst, h12, h22⟩ := id hP
  obtain ⟨w, hw⟩ : ∃ w, I 171 = w := ⟨_, rfl⟩
  have hS : Sr sh I F 2 w := by rw [← hw]; exact hC.1
  have hR := hS.1
  have hL := hS.2.2.2
  have hG := hS.2.1
  have hO : OKw b w := by rw [← hw]; exact hM.1
  have hW := hO.1
  have hWP : WfP w := hW.1
  have hWD := WF_D hW
  have hWB := WF_B hW
  have hWA := WF_A hW
  have hWR := WF_R hW
  have h9 : 0 ≤ w 9 ∧ w 9 ≤ 900000000 := ⟨hO.2.1.1, by have := hO.2.1.2; omega⟩
  have h90 := h9.1
  have h10 := hO.2.2.2.1
  have h7 := hM.2.2.2.1
  have g8 : 0 ≤ aPe w ∧ aPe w ≤ 8 := hW.1
  have hN := wNet_ok hO
  have hM2 : MI (b + 140000) (mzW (mzR I) (wNet w)) := MI_now (MI_rem (MI_up hM)) (OKw_B hN.1 (by omega)) (fun k hk => by
    show wNet w k = I 171 k
    rw [hw]
    exact hN.2 k (by omega))
  refine PrC_a (N := fun J => mzW (mzR J) (wNet w)) hM2 (fun J hA => MEq_W (MEq_R (Ag_M hA))) (cp_net (d := 34) hP hC hw (by omega) hO) (fun X J F' hPx hA => ?_)
  have e : J 171 = w := (hA 171 (by decide) (by decide)).trans hw
  have e7 : J 170 7 = I 170 7 := by rw [hA 170 (by decide) (by decide)]
  have := mp_net (G := G) (d := 34) (sh := sh ++ X) (I := J) (F := F') hPx.1 hPx.2.1 (by rw [e7]; exact h7) (B := b) (by omega) (by rw [e]; exact hO)
  rw [e] at this
  exact this
theorem pr_feed (hI : INV b sh I F) (hb : 0 ≤ b ∧ b ≤ 800000000) {x1 x2 x3 x4 x5 : Int} (j1 : jin x1) (j2 : jin x2) (j3 : jin x3) (j4 : jin x4) (j5 : jin x5) : PrC G mX11_feed mX12_feed [] [jI x1, jI x2, jI x3, jI x4, jI x5] sh I F (b + 140000) := by
  obtain ⟨hP, hC, hM, h159⟩ := id hI
  obtain ⟨hsh, hfx, hmm, hst, h12, h22⟩ := id hP
  obtain ⟨w, hw⟩ : ∃ w, I 171 = w := ⟨_, rfl⟩
  have hS : Sr sh I F 2 w := by rw [← hw]; exact hC.1
  have hR := hS.1
  have hL := hS.2.2.2
  have hG := hS.2.1
  have hO : OKw b w := by rw [← hw]; exact hM.1
  have hW := hO.1
  have hWP : WfP w := hW.1
  have hWD := WF_D hW
  have hWB := WF_B hW
  have hWA := WF_A hW
  have hWR := WF_R hW
  have h9 : 0 ≤ w 9 ∧ w 9 ≤ 900000000 := ⟨hO.2.1.1, by have := hO.2.1.2; omega⟩
  have h90 := h9.1
  have h10 := hO.2.2.2.1
  have h7 := hM.2.2.2.1
  have g8 : 0 ≤ aPe w ∧ aPe w ≤ 8 := hW.1
  have ht := hC.2.2.2.2.2.1
  by_cases g : I 170 9 + 20 ≤ 400
  · refine PrC_a (N := fun J => mzT J (fdM (J 176) (J 170 9) (fX x1 x2 x3 x4 x5) 20) (J 170 9 + 20)) (MI_tape (MI_up hM)) (fun J hA => ?_) (cp_feed_0 (d := 34) hP hC j1 j2 j3 j4 j5 g) (fun X J F' hPx hA => ?_)
    · rw [hA 176 (by decide) (by decide), hA 170 (by decide) (by decide)]; exact MEq_T (Ag_M hA)
    · have e9 : J 170 9 = I 170 9 := by rw [hA 170 (by decide) (by decide)]
      have := mp_feed_0 (G := G) (d := 34) (sh := sh ++ X) (I := J) (F := F') hPx.1 hPx.2.1 j1 j2 j3 j4 j5 (by rw [e9]; exact ht) (by rw [e9]; exact g)
      show jS G 40 _ _ _ _ _ (rEI (I 170 9 + 20) _ _ _)
      rw [← e9]
      exact this
  · refine PrC_q hI (cp_feed_1 (d := 34) hsh hfx hC g) (fun X J F' hPx hA => ?_)
    have e9 : J 170 9 = I 170 9 := by rw [hA 170 (by decide) (by decide)]
    exact mp_feed_1 (d := 34) hPx.1 hPx.2.1 (by rw [e9]; exact ht) (by rw [e9]; exact g)
theorem pr_end (hI : INV b sh I F) (hb : 0 ≤ b ∧ b ≤ 800000000) {n : Int} (jn : jin n) : PrC G mX11_end mX12_end [] [jI n] sh I F (b + 140000) := by
  obtain ⟨hP, hC, hM, h159⟩ := id hI
  obtain ⟨hsh, hfx, hmm, hst, h12, h22⟩ := id hP
  obtain ⟨w, hw⟩ : ∃ w, I 171 = w := ⟨_, rfl⟩
  have hS : Sr sh I F 2 w := by rw [← hw]; exact hC.1
  have hR := hS.1
  have hL := hS.2.2.2
  have hG := hS.2.1
  have hO : OKw b w := by rw [← hw]; exact hM.1
  have hW := hO.1
  have hWP : WfP w := hW.1
  have hWD := WF_D hW
  have hWB := WF_B hW
  have hWA := WF_A hW
  have hWR := WF_R hW
  have h9 : 0 ≤ w 9 ∧ w 9 ≤ 900000000 := ⟨hO.2.1.1, by have := hO.2.1.2; omega⟩
  have h90 := h9.1
  have h10 := hO.2.2.2.1
  have h7 := hM.2.2.2.1
  have g8 : 0 ≤ aPe w ∧ aPe w ≤ 8 := hW.1
  have ht := hC.2.2.2.2.2.1
  refine PrC_a (N := fun J => if 0 ≤ n ∧ n ≤ J 170 9 then mzT J (J 176) n else J) ?_ (fun J hA => ?_) (cp_end (d := 34) hP hC jn) (fun X J F' hPx hA => ?_)
  · split
    · exact MI_tape (MI_up hM)
    · exact MI_up hM
  · have e9 : J 170 9 = I 170 9 := by rw [hA 170 (by decide) (by decide)]
    show MEq _ (if 0 ≤ n ∧ n ≤ J 170 9 then mzT J (J 176) n else J)
    rw [e9]
    split
    · rw [hA 176 (by decide) (by decide)]; exact MEq_T (Ag_M hA)
    · exact Ag_M hA
  · have e9 : J 170 9 = I 170 9 := by rw [hA 170 (by decide) (by decide)]
    have := mp_end (G := G) (d := 34) (sh := sh ++ X) (I := J) (F := F') hPx.1 hPx.2.1 jn (by rw [e9]; exact ht)
    show jS G 40 _ _ _ _ _ (rEI (if 0 ≤ n ∧ n ≤ I 170 9 then 1 else 0) _ _ _)
    rw [← e9]
    exact this
theorem pr_fault (hI : INV b sh I F) : PrC G mX11_fault mX12_fault [] [] sh I F (b + 140000) := by
  have t3 := hI.2.1.2.2.2.2.2.2.1
  refine PrC_q (r := I 170 14) hI ?_ (fun X J F' hPx hA => ?_)
  · rw [← t3]; exact cp_fault hI.1.1
  · have := mp_fault (G := G) (d := 40) (sh := sh ++ X) (I := J) (F := F') hPx.1
    rw [hA 170 (by decide) (by decide)] at this
    exact this
theorem pr_count (hI : INV b sh I F) (hb : 0 ≤ b ∧ b ≤ 800000000) {k : Int} (jk : jin k) : PrC G mX11_count mX12_count [] [jI k] sh I F (b + 140000) := by
  obtain ⟨hP, hC, hM, h159⟩ := id hI
  obtain ⟨hsh, hfx, hmm, hst, h12, h22⟩ := id hP
  obtain ⟨w, hw⟩ : ∃ w, I 171 = w := ⟨_, rfl⟩
  have hS : Sr sh I F 2 w := by rw [← hw]; exact hC.1
  have hR := hS.1
  have hL := hS.2.2.2
  have hG := hS.2.1
  have hO : OKw b w := by rw [← hw]; exact hM.1
  have hW := hO.1
  have hWP : WfP w := hW.1
  have hWD := WF_D hW
  have hWB := WF_B hW
  have hWA := WF_A hW
  have hWR := WF_R hW
  have h9 : 0 ≤ w 9 ∧ w 9 ≤ 900000000 := ⟨hO.2.1.1, by have := hO.2.1.2; omega⟩
  have h90 := h9.1
  have h10 := hO.2.2.2.1
  have h7 := hM.2.2.2.1
  have g8 : 0 ≤ aPe w ∧ aPe w ≤ 8 := hW.1
  refine PrC_q (r := vCount w (I 170 7) k) hI (cp_count (d := 34) hsh hfx hst hR hW jk hL hS.2.2.1 hG.1 hC.2.2.2.1.1) (fun X J F' hPx hA => ?_)
  have e : J 171 = w := (hA 171 (by decide) (by decide)).trans hw
  have e7 : J 170 7 = I 170 7 := by rw [hA 170 (by decide) (by decide)]
  have := mp_count (G := G) (d := 34) (sh := sh ++ X) (I := J) (F := F') hPx.1 hPx.2.1 (by rw [e]; exact hW) jk
  rw [e, e7] at this
  exact this
theorem pr_netted (hI : INV b sh I F) (hb : 0 ≤ b ∧ b ≤ 800000000) : PrC G mX11_netted mX12_netted [] [] sh I F (b + 140000) := by
  obtain ⟨hP, hC, hM, h159⟩ := id hI
  obtain ⟨hsh, hfx, hmm, hst, h12, h22⟩ := id hP
  obtain ⟨w, hw⟩ : ∃ w, I 171 = w := ⟨_, rfl⟩
  have hS : Sr sh I F 2 w := by rw [← hw]; exact hC.1
  have hR := hS.1
  have hL := hS.2.2.2
  have hG := hS.2.1
  have hO : OKw b w := by rw [← hw]; exact hM.1
  have hW := hO.1
  have hWP : WfP w := hW.1
  have hWD := WF_D hW
  have hWB := WF_B hW
  have hWA := WF_A hW
  have hWR := WF_R hW
  have h9 : 0 ≤ w 9 ∧ w 9 ≤ 900000000 := ⟨hO.2.1.1, by have := hO.2.1.2; omega⟩
  have h90 := h9.1
  have h10 := hO.2.2.2.1
  have h7 := hM.2.2.2.1
  have g8 : 0 ≤ aPe w ∧ aPe w ≤ 8 := hW.1
  refine PrC_j (M' := I) (fun J hf => ⟨hP, CR_fr hC (fun a ha => hf a (by omega) (by omega) (by omega)), fun a a0 _ => hf a (by omega) (by omega) (by omega), by rw [hf 159 (by decide) (by decide) (by decide)]⟩) (cp_netted (d := 34) hsh hfx hst hR (B := b) (by omega) hO) (fun X J F' hPx hA => ?_)
  have e : J 171 = w := (hA 171 (by decide) (by decide)).trans hw
  have := mp_netted (G := G) (d := 34) (sh := sh ++ X) (I := J) (F := F') hPx.1 hPx.2.1 (B := b) (by omega) (by rw [e]; exact hO)
  rw [e] at this
  exact jS_EP this (fun K hK => MdP_A hK (Ag_M hA) (MI_up hM))
theorem pr_seed (hI : INV b sh I F) (hb : 0 ≤ b ∧ b ≤ 800000000) {n : Int} (jn : jin n) : PrC G mX11_seed mX12_seed [] [jI n] sh I F (b + 140000) := by
  obtain ⟨hP, hC, hM, h159⟩ := id hI
  obtain ⟨hsh, hfx, hmm, hst, h12, h22⟩ := id hP
  obtain ⟨w, hw⟩ : ∃ w, I 171 = w := ⟨_, rfl⟩
  have hS : Sr sh I F 2 w := by rw [← hw]; exact hC.1
  have hR := hS.1
  have hL := hS.2.2.2
  have hG := hS.2.1
  have hO : OKw b w := by rw [← hw]; exact hM.1
  have hW := hO.1
  have hWP : WfP w := hW.1
  have hWD := WF_D hW
  have hWB := WF_B hW
  have hWA := WF_A hW
  have hWR := WF_R hW
  have h9 : 0 ≤ w 9 ∧ w 9 ≤ 900000000 := ⟨hO.2.1.1, by have := hO.2.1.2; omega⟩
  have h90 := h9.1
  have h10 := hO.2.2.2.1
  have h7 := hM.2.2.2.1
  have g8 : 0 ≤ aPe w ∧ aPe w ≤ 8 := hW.1
  have hM2 : MI (b + 140000) (mzW I (wup w 11 n)) := MI_now (MI_up hM) (OKw_B (OKw_seed hO) (by omega)) (fun k hk => by rw [hw]; exact wup_ne _ _ (by omega))
  have hS2 : Sr sh (jup I 2 14 n) F 2 (wup w 11 n) := Sr_now (by decide) hS (Rp_fld hR (by omega)) (jup_row _ _ _ (by decide)) (fun a x0 x1 => jup_ne _ _ _ (by omega)) (fun k hk => wup_ne _ _ (by omega))
  have hCR : CR sh (jup I 2 14 n) F (mzW I (wup w 11 n)) := CR_now hC hS2 (fun a x0 x1 => jup_ne _ _ _ (by omega)) (fun k hk => by rw [hw]; exact wup_ne _ _ (by omega))
  refine PrC_j (P := fun J => J = jup I 2 14 n) (M' := mzW I (wup w 11 n)) (fun J hJ => by
    rw [hJ]
    exact ⟨hP, hCR, fun a a0 _ => jup_ne _ _ _ (by omega), by rw [jup_ne _ _ _ (by decide)]⟩) (jS_EI (cp_seed (d := 40) hsh hfx hst hR jn) rfl) (fun X J F' hPx hA => ?_)
  have e : J 171 = w := (hA 171 (by decide) (by decide)).trans hw
  have := mp_seed (G := G) (d := 40) (sh := sh ++ X) (I := J) (F := F') hPx.1 hPx.2.1 jn
  rw [e] at this
  refine jS_EI this ?_
  have hq : MEq (mzW I (wup w 11 n)) (jup (jup J 170 0 0) 171 11 n) := by
    obtain ⟨h1, h2, h3, h4, h5, h6, h7, h8⟩ := Ag_M hA
    refine ⟨?_, ?_, ?_, ?_, ?_, ?_, ?_, ?_⟩
    · rw [jup_at, jup_ne _ _ _ (by decide), e]; rfl
    · rw [jup_ne _ _ _ (by decide), jup_ne _ _ _ (by decide), h2]; rfl
    · rw [jup_ne _ _ _ (by decide), jup_ne _ _ _ (by decide), h3]; rfl
    · rw [jup_ne _ _ _ (by decide), jup_ne _ _ _ (by decide), h4]; rfl
    · rw [jup_ne _ _ _ (by decide), jup_row _ _ _ (by decide), h5]; rfl
    · rw [jup_ne _ _ _ (by decide), jup_row _ _ _ (by decide), h6]; rfl
    · rw [jup_ne _ _ _ (by decide), jup_row _ _ _ (by decide), h7]; rfl
    · rw [jup_ne _ _ _ (by decide), jup_row _ _ _ (by decide), h8]; rfl
  exact ⟨by rw [jup_ne _ _ _ (by decide), jup_same], fun _ _ _ h => CR_M hq h, MI_M hq hM2, fun a ha => by rw [jup_ne _ _ _ (by omega), jup_ne _ _ _ (by omega)]⟩
/-! ### acts undone, images -/
/-- the model with other rows and so much remembered -/
def mzV (M : Nat → Int → Int) (w : Int → Int) (r : Int) : Nat → Int → Int := fun a => if a = 171 then w else if a = 170 then wup (M 170) 7 r else M a
theorem mzV_7 {M : Nat → Int → Int} {w : Int → Int} {r : Int} : mzV M w r 170 7 = r := wup_same (M 170) 7 r
theorem mzV_k {M : Nat → Int → Int} {w : Int → Int} {r k : Int} (h : k ≠ 7) : mzV M w r 170 k = M 170 k := wup_ne (M 170) r h
theorem mzV_o {M : Nat → Int → Int} {w : Int → Int} {r : Int} {a : Nat} (h : a ≠ 170) (h1 : a ≠ 171) : mzV M w r a = M a := by unfold mzV; rw [if_neg h1, if_neg h]
theorem mzV_row {M : Nat → Int → Int} {w : Int → Int} {r : Int} (hw : ∀ k, k < 0 ∨ 420 ≤ k → w k = M 171 k) (j : Int) : mRow (mzV M w r) j = mRow M j := by
  funext k
  show mCpy w (fun k => M 175 (420 * j + k)) 420 k = mCpy (M 171) (fun k => M 175 (420 * j + k)) 420 k
  unfold mCpy
  by_cases e : 0 ≤ k ∧ k < 420
  · rw [if_pos e, if_pos e]
  · rw [if_neg e, if_neg e]; exact hw k (by omega)
theorem pr_undo (hI : INV b sh I F) (hb : 0 ≤ b ∧ b ≤ 800000000) : PrC G mX11_undo mX12_undo [] [] sh I F (b + 140000) := by
  obtain ⟨hP, hC, hM, h159⟩ := id hI
  obtain ⟨hsh, hfx, hmm, hst, h12, h22⟩ := id hP
  obtain ⟨w, hw⟩ : ∃ w, I 171 = w := ⟨_, rfl⟩
  have hS : Sr sh I F 2 w := by rw [← hw]; exact hC.1
  have hR := hS.1
  have hL := hS.2.2.2
  have hG := hS.2.1
  have hO : OKw b w := by rw [← hw]; exact hM.1
  have hW := hO.1
  have hWP : WfP w := hW.1
  have hWD := WF_D hW
  have hWB := WF_B hW
  have hWA := WF_A hW
  have hWR := WF_R hW
  have h9 : 0 ≤ w 9 ∧ w 9 ≤ 900000000 := ⟨hO.2.1.1, by have := hO.2.1.2; omega⟩
  have h90 := h9.1
  have h10 := hO.2.2.2.1
  have h7 := hM.2.2.2.1
  have g8 : 0 ≤ aPe w ∧ aPe w ≤ 8 := hW.1
  obtain ⟨a1, a2, a3, ⟨m1, m2, m3, m4⟩, t1, t2, t3, t4⟩ := id hC
  by_cases g : I 170 7 = 0
  · refine PrC_q hI (cp_undo_f (d := 36) hsh hfx (by rw [m1]; exact g)) (fun X J F' hPx hA => ?_)
    exact mp_undo_f (d := 40) hPx.1 hPx.2.1 (by rw [hA 170 (by decide) (by decide)]; exact g)
  · obtain ⟨q, hq⟩ : ∃ x, I 170 7 = x := ⟨_, rfl⟩
    obtain ⟨x, hx⟩ : ∃ x, I 32 2 = x := ⟨_, rfl⟩
    rw [hq] at m1 m2 m4 g
    rw [hx] at m3 m4
    obtain ⟨v, hv⟩ : ∃ v, mRow I (q - 1) = v := ⟨_, rfl⟩
    have hp : mPl ((x + 12 - 1) % 12) = 34 + 10 * ((x + 12 - 1) % 12).toNat := rfl
    have hS1 : Sr sh I F (mPl ((x + 12 - 1) % 12)) v := by
      have := m4 (q - 1) (by omega) (by omega)
      rw [hv, show (x + 12 - q + (q - 1)) % 12 = (x + 12 - 1) % 12 by omega] at this
      exact this
    have hOv : OKw b v := by rw [← hv]; exact hM.2.2.2.2 (q - 1) (by omega) (by rw [hq]; omega)
    have h17 : I (mPl ((x + 12 - 1) % 12)) 17 = 0 ∨ I (mPl ((x + 12 - 1) % 12)) 17 = 1 := by rw [hS1.1.2.2.2.2.2.2.2.2.2.2.2.2.2]; exact hOv.1.2.2.2.1
    have vo : ∀ k, k < 0 ∨ 420 ≤ k → v k = I 171 k := fun k hk => by
      rw [← hv]
      show mCpy (I 171) (fun k => I 175 (420 * (q - 1) + k)) 420 k = _
      unfold mCpy
      rw [if_neg (by omega)]
    have hM2 : MI (b + 140000) (mzV I v (q - 1)) := by
      obtain ⟨o1, o2, o3, o4, o5⟩ := MI_up hM
      refine ⟨OKw_B hOv (by omega), by rw [mzV_k (by decide)]; exact o2, fun z => by rw [mzV_k (by decide)] at z; exact o3 z, by rw [mzV_7]; omega, fun j j0 j1 => ?_⟩
      rw [mzV_7] at j1
      rw [mzV_row vo]
      exact o5 j j0 (by omega)
    have hcc := cp_undo_t (G := G) (d := 36) hsh hfx hmm hst hx m3 m1 (by omega) h17
    refine PrC_j (M' := mzV I v (q - 1)) ?_ hcc (fun X J F' hPx hA => ?_)
    · rintro J ⟨J1, k1, k2, k3, k4⟩
      have hf := TkA_fr k4
      have hJ : ∀ a, a ≠ 32 → (a < 2 ∨ 11 < a) → J a = I a := fun a b0 b1 => by rw [hf a (by omega), k1 a b0]
      have hS1J : Sr sh J1 F (mPl ((x + 12 - 1) % 12)) v := Sr_fr hS1 (fun a b0 b1 => k1 a (by omega)) (fun a ha => k1 a (by omega))
      have oth : ∀ s u, (s + 9 < 32 ∨ 32 < s) → 11 < s → Sr sh I F s u → Sr sh J (jup F 2 18 (F (mPl ((x + 12 - 1) % 12)) 18)) s u := fun s u hs hs2 h => TkA_oth (by decide) k4 (by omega) (Sr_fr h (fun a b0 b1 => k1 a (by omega)) (fun a ha => k1 a (by omega)))
      refine ⟨Pl_F hP, ⟨TkA_Sr (by decide) k4 hS1J, ?_, fun z => ?_, ⟨?_, ?_, ?_, fun j j0 j1 => ?_⟩, ?_, ?_, ?_, ?_⟩, fun a a0 _ => hJ a (by omega) (by omega), by rw [hJ 159 (by decide) (by decide)]⟩
      · rw [hJ 0 (by decide) (by decide), mzV_k (by decide)]; exact a2
      · rw [mzV_k (by decide)] at z
        exact oth 22 _ (by decide) (by decide) (a3 z)
      · rw [hf 32 (by decide), k2, mzV_7]
      · rw [mzV_7]; omega
      · rw [hf 32 (by decide), k3]; omega
      · rw [mzV_7] at j1 ⊢
        rw [hf 32 (by decide), k3, mzV_row vo]
        have e2 : ((x + 12 - 1) % 12 + 12 - (q - 1) + j) % 12 = (x + 12 - q + j) % 12 := by omega
        rw [e2]
        have hp2 : mPl ((x + 12 - q + j) % 12) = 34 + 10 * ((x + 12 - q + j) % 12).toNat := rfl
        exact oth _ _ (by omega) (by omega) (m4 j j0 (by omega))
      · rw [hJ 0 (by decide) (by decide), mzV_k (by decide)]; exact t1
      · rw [mzV_k (by decide)]; exact t2
      · rw [hJ 0 (by decide) (by decide), mzV_k (by decide)]; exact t3
      · rw [hJ 1 (by decide) (by decide), mzV_o (by decide) (by decide)]; exact t4
    · have e7 : J 170 7 = q := by rw [hA 170 (by decide) (by decide)]; exact hq
      refine jS_EP (mp_undo_t (d := 40) hPx.1 hPx.2.1 e7 (by omega)) (fun K ⟨u1, u2, u3, u4, u5⟩ => ?_)
      have hq2 : MEq (mzV I v (q - 1)) K := by
        refine ⟨?_, ?_, ?_, ?_, ?_, ?_, ?_, ?_⟩
        · rw [u3, hA 171 (by decide) (by decide), hA 175 (by decide) (by decide)]; exact hv
        · rw [u4 172 (by decide) (by decide), hA 172 (by decide) (by decide), mzV_o (by decide) (by decide)]
        · rw [u4 175 (by decide) (by decide), hA 175 (by decide) (by decide), mzV_o (by decide) (by decide)]
        · rw [u4 176 (by decide) (by decide), hA 176 (by decide) (by decide), mzV_o (by decide) (by decide)]
        · rw [u5 6 (by decide) (by decide), hA 170 (by decide) (by decide), mzV_k (by decide)]
        · rw [u2, mzV_7]
        · rw [u5 9 (by decide) (by decide), hA 170 (by decide) (by decide), mzV_k (by decide)]
        · rw [u5 14 (by decide) (by decide), hA 170 (by decide) (by decide), mzV_k (by decide)]
      exact ⟨u1, fun _ _ _ h => CR_M hq2 h, MI_M hq2 hM2, fun a ha => u4 a (by omega) (by omega)⟩
theorem pr_back (hI : INV b sh I F) (hb : 0 ≤ b ∧ b ≤ 800000000) : PrC G mX11_back mX12_back [] [] sh I F (b + 140000) := by
  obtain ⟨hP, hC, hM, h159⟩ := id hI
  obtain ⟨hsh, hfx, hmm, hst, h12, h22⟩ := id hP
  obtain ⟨w, hw⟩ : ∃ w, I 171 = w := ⟨_, rfl⟩
  have hS : Sr sh I F 2 w := by rw [← hw]; exact hC.1
  have hR := hS.1
  have hL := hS.2.2.2
  have hG := hS.2.1
  have hO : OKw b w := by rw [← hw]; exact hM.1
  have hW := hO.1
  have hWP : WfP w := hW.1
  have hWD := WF_D hW
  have hWB := WF_B hW
  have hWA := WF_A hW
  have hWR := WF_R hW
  have h9 : 0 ≤ w 9 ∧ w 9 ≤ 900000000 := ⟨hO.2.1.1, by have := hO.2.1.2; omega⟩
  have h90 := h9.1
  have h10 := hO.2.2.2.1
  have h7 := hM.2.2.2.1
  have g8 : 0 ≤ aPe w ∧ aPe w ≤ 8 := hW.1
  obtain ⟨a1, a2, a3, ⟨m1, m2, m3, m4⟩, t1, t2, t3, t4⟩ := id hC
  rcases hM.2.1 with g | g
  · refine PrC_q hI (cp_back_f (d := 36) hsh hfx (by rw [a2]; exact g)) (fun X J F' hPx hA => ?_)
    exact mp_back_f (d := 40) hPx.1 hPx.2.1 (by rw [hA 170 (by decide) (by decide)]; exact g)
  · obtain ⟨v, hv⟩ : ∃ v, mCpy (I 171) (I 172) 1269 = v := ⟨_, rfl⟩
    have vi : ∀ k, 0 ≤ k → k < 1269 → v k = I 172 k := fun k k0 k1 => by rw [← hv]; exact mCpy_in ⟨k0, k1⟩
    have hO2 := hM.2.2.1 g
    have hS1 : Sr sh I F 22 v := Sr_w (a3 g) hO2.1 vi
    have hOv : OKw b v := OKw_w hO2 vi
    have h17 : I 22 17 = 0 ∨ I 22 17 = 1 := by rw [hS1.1.2.2.2.2.2.2.2.2.2.2.2.2.2]; exact hOv.1.2.2.2.1
    have hM2 : MI (b + 140000) (mzV I v 0) := by
      obtain ⟨o1, o2, o3, o4, o5⟩ := MI_up hM
      refine ⟨OKw_B hOv (by omega), by rw [mzV_k (by decide)]; exact o2, fun z => by rw [mzV_k (by decide)] at z; exact o3 z, by rw [mzV_7]; omega, fun j j0 j1 => ?_⟩
      rw [mzV_7] at j1
      omega
    have hcc := cp_back_t (G := G) (d := 36) hsh hfx hst h22 (by rw [a2]; exact g) h17
    refine PrC_j (M' := mzV I v 0) ?_ hcc (fun X J F' hPx hA => ?_)
    · rintro J ⟨J1, k1, k2, k3, k4⟩
      have hf := TkA_fr k1
      have hJ : ∀ a, a ≠ 32 → (a < 2 ∨ 11 < a) → J a = I a := fun a b0 b1 => by rw [k4 a b0, hf a (by omega)]
      refine ⟨Pl_F hP, ⟨Sr_fr (TkA_Sr (by decide) k1 hS1) (fun a b0 b1 => k4 a (by omega)) (fun a ha => k4 a (by omega)), ?_, fun z => ?_, ⟨?_, ?_, ?_, fun j j0 j1 => ?_⟩, ?_, ?_, ?_, ?_⟩, fun a a0 _ => hJ a (by omega) (by omega), by rw [hJ 159 (by decide) (by decide)]⟩
      · rw [hJ 0 (by decide) (by decide), mzV_k (by decide)]; exact a2
      · rw [mzV_k (by decide)] at z
        rw [mzV_o (by decide) (by decide)]
        exact Sr_F (by decide) (Sr_fr (a3 z) (fun a b0 b1 => hJ a (by omega) (by omega)) (fun a ha => hJ a (by omega) (by omega)))
      · rw [k2, mzV_7]
      · rw [mzV_7]; omega
      · rw [k3 2 (by decide)]; exact m3
      · rw [mzV_7] at j1
        omega
      · rw [hJ 0 (by decide) (by decide), mzV_k (by decide)]; exact t1
      · rw [mzV_k (by decide)]; exact t2
      · rw [hJ 0 (by decide) (by decide), mzV_k (by decide)]; exact t3
      · rw [hJ 1 (by decide) (by decide), mzV_o (by decide) (by decide)]; exact t4
    · refine jS_EP (mp_back_t (d := 40) hPx.1 hPx.2.1 (by rw [hA 170 (by decide) (by decide)]; exact g)) (fun K ⟨u1, u2, u3, u4, u5⟩ => ?_)
      have hq2 : MEq (mzV I v 0) K := by
        refine ⟨?_, ?_, ?_, ?_, ?_, ?_, ?_, ?_⟩
        · rw [u3, hA 171 (by decide) (by decide), hA 172 (by decide) (by decide)]; exact hv
        · rw [u4 172 (by decide) (by decide), hA 172 (by decide) (by decide), mzV_o (by decide) (by decide)]
        · rw [u4 175 (by decide) (by decide), hA 175 (by decide) (by decide), mzV_o (by decide) (by decide)]
        · rw [u4 176 (by decide) (by decide), hA 176 (by decide) (by decide), mzV_o (by decide) (by decide)]
        · rw [u5 6 (by decide) (by decide), hA 170 (by decide) (by decide), mzV_k (by decide)]
        · rw [u2, mzV_7]
        · rw [u5 9 (by decide) (by decide), hA 170 (by decide) (by decide), mzV_k (by decide)]
        · rw [u5 14 (by decide) (by decide), hA 170 (by decide) (by decide), mzV_k (by decide)]
      exact ⟨u1, fun _ _ _ h => CR_M hq2 h, MI_M hq2 hM2, fun a ha => u4 a (by omega) (by omega)⟩
/-- the model with an image -/
def mzI (M : Nat → Int → Int) (w : Int → Int) : Nat → Int → Int := fun a => if a = 172 then w else if a = 170 then wup (M 170) 6 1 else M a
theorem mzI_6 {M : Nat → Int → Int} {w : Int → Int} : mzI M w 170 6 = 1 := wup_same (M 170) 6 1
theorem mzI_k {M : Nat → Int → Int} {w : Int → Int} {k : Int} (h : k ≠ 6) : mzI M w 170 k = M 170 k := wup_ne (M 170) 1 h
theorem mzI_o {M : Nat → Int → Int} {w : Int → Int} {a : Nat} (h : a ≠ 170) (h1 : a ≠ 172) : mzI M w a = M a := by unfold mzI; rw [if_neg h1, if_neg h]
/-- an image is laid by both -/
theorem pr_image (hI : INV b sh I F) (hb : 0 ≤ b ∧ b ≤ 800000000) : ∃ M' : Nat → Int → Int, jS G 40 mX11_image [jR (some 0)] (sh, I, F) 0 0 (fun o h => ∃ J F', o = .inl none ∧ h = (sh, J, F') ∧ CaL sh.length sh I M' J F') ∧ ∀ (J : Nat → Int → Int) (F' : Nat → Int → Option Nat), Pl sh F' → Ag I J → jS G 40 mX12_image [jR (some 170)] (sh, J, F') 0 0 (fun o h => ∃ K, o = .inl none ∧ h = (sh, K, F') ∧ MdP (b + 140000) 0 M' J K) := by
  obtain ⟨hP, hC, hM, h159⟩ := id hI
  obtain ⟨hsh, hfx, hmm, hst, h12, h22⟩ := id hP
  obtain ⟨w, hw⟩ : ∃ w, I 171 = w := ⟨_, rfl⟩
  have hS : Sr sh I F 2 w := by rw [← hw]; exact hC.1
  have hR := hS.1
  have hL := hS.2.2.2
  have hG := hS.2.1
  have hO : OKw b w := by rw [← hw]; exact hM.1
  have hW := hO.1
  have hWP : WfP w := hW.1
  have hWD := WF_D hW
  have hWB := WF_B hW
  have hWA := WF_A hW
  have hWR := WF_R hW
  have h9 : 0 ≤ w 9 ∧ w 9 ≤ 900000000 := ⟨hO.2.1.1, by have := hO.2.1.2; omega⟩
  have h90 := h9.1
  have h10 := hO.2.2.2.1
  have h7 := hM.2.2.2.1
  have g8 : 0 ≤ aPe w ∧ aPe w ≤ 8 := hW.1
  obtain ⟨a1, a2, a3, ⟨m1, m2, m3, m4⟩, t1, t2, t3, t4⟩ := id hC
  obtain ⟨v, hv⟩ : ∃ v, mCpy (I 172) (I 171) 1269 = v := ⟨_, rfl⟩
  have vi : ∀ k, 0 ≤ k → k < 1269 → v k = w k := fun k k0 k1 => by rw [← hv, mCpy_in ⟨k0, k1⟩, hw]
  have hSv : Sr sh I F 2 v := Sr_w hS hW vi
  have hOv : OKw b v := OKw_w hO vi
  have h17 : I 2 17 = 0 ∨ I 2 17 = 1 := by rw [hR.2.2.2.2.2.2.2.2.2.2.2.2.2]; exact hW.2.2.2.1
  have er : ∀ j, mRow (mzI I v) j = mRow I j := fun j => rfl
  have hM2 : MI (b + 140000) (mzI I v) := by
    obtain ⟨o1, o2, o3, o4, o5⟩ := MI_up hM
    exact ⟨o1, Or.inr mzI_6, fun _ => OKw_B hOv (by omega), by rw [mzI_k (by decide)]; exact o4, fun j j0 j1 => by rw [mzI_k (by decide)] at j1; rw [er]; exact o5 j j0 j1⟩
  refine ⟨mzI I v, jS_mono (cp_image (d := 36) hsh hfx hst h22 h17) (fun o h ⟨J, h1, h2, J1, k1, k2, k3, k4⟩ => ⟨J, _, h1, h2, ?_⟩), fun J F' hPx hA => jS_mono (mp_image (d := 40) hPx.1 hPx.2.1) (fun o h ⟨K, h1, h2, u1, u2, u3, u4, u5⟩ => ⟨K, h1, h2, ?_⟩)⟩
  · have hf := TkA_fr k1
    have hJ : ∀ a, a ≠ 0 → (a < 22 ∨ 31 < a) → J a = I a := fun a b0 b1 => by rw [k4 a b0, hf a (by omega)]
    refine ⟨Pl_F hP, ⟨Sr_F (by decide) (Sr_fr a1 (fun a b0 b1 => hJ a (by omega) (by omega)) (fun a ha => hJ a (by omega) (by omega))), ?_, fun _ => ?_, ⟨?_, ?_, ?_, fun j j0 j1 => ?_⟩, ?_, ?_, ?_, ?_⟩, fun a a0 _ => hJ a (by omega) (by omega), by rw [hJ 159 (by decide) (by decide)]⟩
    · rw [k2, mzI_6]
    · exact Sr_fr (TkA_Sr (by decide) k1 hSv) (fun a b0 b1 => k4 a (by omega)) (fun a ha => k4 a (by omega))
    · rw [hJ 32 (by decide) (by decide), mzI_k (by decide)]; exact m1
    · rw [mzI_k (by decide)]; exact m2
    · rw [hJ 32 (by decide) (by decide)]; exact m3
    · rw [mzI_k (by decide)] at j1 ⊢
      rw [hJ 32 (by decide) (by decide), er]
      have hp2 : mPl ((I 32 2 + 12 - I 170 7 + j) % 12) = 34 + 10 * ((I 32 2 + 12 - I 170 7 + j) % 12).toNat := rfl
      exact Sr_F (by omega) (Sr_fr (m4 j j0 j1) (fun a b0 b1 => hJ a (by omega) (by omega)) (fun a ha => hJ a (by omega) (by omega)))
    · rw [k3 1 (by decide), mzI_k (by decide)]; exact t1
    · rw [mzI_k (by decide)]; exact t2
    · rw [k3 2 (by decide), mzI_k (by decide)]; exact t3
    · rw [hJ 1 (by decide) (by decide), mzI_o (by decide) (by decide)]; exact t4
  · have hq2 : MEq (mzI I v) K := by
      refine ⟨?_, ?_, ?_, ?_, ?_, ?_, ?_, ?_⟩
      · rw [u4 171 (by decide) (by decide), hA 171 (by decide) (by decide), mzI_o (by decide) (by decide)]
      · rw [u3, hA 171 (by decide) (by decide), hA 172 (by decide) (by decide)]; exact hv
      · rw [u4 175 (by decide) (by decide), hA 175 (by decide) (by decide), mzI_o (by decide) (by decide)]
      · rw [u4 176 (by decide) (by decide), hA 176 (by decide) (by decide), mzI_o (by decide) (by decide)]
      · rw [u2, mzI_6]
      · rw [u5 7 (by decide) (by decide), hA 170 (by decide) (by decide), mzI_k (by decide)]
      · rw [u5 9 (by decide) (by decide), hA 170 (by decide) (by decide), mzI_k (by decide)]
      · rw [u5 14 (by decide) (by decide), hA 170 (by decide) (by decide), mzI_k (by decide)]
    exact ⟨u1, fun _ _ _ h => CR_M hq2 h, MI_M hq2 hM2, fun a ha => u4 a (by omega) (by omega)⟩
/-! ### texts -/
theorem WF_cong1 {w : Int → Int} {x : Int} (h : WF w) : WF (wup w 1 x) := by
  obtain ⟨h1, ⟨o1, o2, o3⟩, h3, h4, h5, h6⟩ := h
  have e : ∀ k, k ≠ 1 → wup w 1 x k = w k := fun k hk => wup_ne _ _ hk
  have eo : ∀ p k : Int, 0 ≤ p → 0 ≤ k → aOf (wup w 1 x) p k = aOf w p k := fun p k p0 k0 => e _ (by omega)
  have e0 : aPe (wup w 1 x) = aPe w := e 0 (by decide)
  refine ⟨by rw [e0]; exact h1, ⟨by rw [e 3 (by decide)]; exact o1, by rw [e 5 (by decide)]; exact o2, fun p p0 p1 => ?_⟩, WfLw_cong (e 2 (by decide)) (fun k hk => e k (by omega)) h3, by rw [e 8 (by decide)]; exact h4, by rw [e 6 (by decide)]; exact h5, by rw [e 7 (by decide)]; exact h6⟩
  rw [e0] at p1 ⊢
  have := o3 p p0 p1
  rw [eo p 0 p0 (by decide), eo p 1 p0 (by decide), eo p 2 p0 (by decide), eo p 3 p0 (by decide), eo p 4 p0 (by decide), eo p 5 p0 (by decide)]
  exact ⟨this.1, this.2.1, this.2.2.1, this.2.2.2.1, this.2.2.2.2.1, this.2.2.2.2.2.1, fun k k0 k1 => by rw [eo p _ p0 (by omega)]; exact this.2.2.2.2.2.2 k k0 k1⟩
theorem pr_bank (hI : INV b sh I F) (hb : 0 ≤ b ∧ b ≤ 800000000) : PrC G mX11_bank mX12_bank [xIae, xUoe] [] sh I F (b + 140000) := by
  obtain ⟨hP, hC, hM, h159⟩ := id hI
  obtain ⟨hsh, hfx, hmm, hst, h12, h22⟩ := id hP
  obtain ⟨w, hw⟩ : ∃ w, I 171 = w := ⟨_, rfl⟩
  have hS : Sr sh I F 2 w := by rw [← hw]; exact hC.1
  have hR := hS.1
  have hL := hS.2.2.2
  have hG := hS.2.1
  have hO : OKw b w := by rw [← hw]; exact hM.1
  have hW := hO.1
  have hWP : WfP w := hW.1
  have hWD := WF_D hW
  have hWB := WF_B hW
  have hWA := WF_A hW
  have hWR := WF_R hW
  have h9 : 0 ≤ w 9 ∧ w 9 ≤ 900000000 := ⟨hO.2.1.1, by have := hO.2.1.2; omega⟩
  have h90 := h9.1
  have h10 := hO.2.2.2.1
  have h7 := hM.2.2.2.1
  have g8 : 0 ≤ aPe w ∧ aPe w ≤ 8 := hW.1
  obtain ⟨a1, a2, a3, ⟨m1, m2, m3, m4⟩, t1, t2, t3, t4⟩ := id hC
  obtain ⟨R, hRR⟩ : ∃ R, bTxt (I 1) (I 170 9) w (lxB (I 1) (I 170 9) 0) = R := ⟨_, rfl⟩
  have hq0 : lxB (I 1) (I 170 9) 0 ≤ I 170 9 := (lx_le (B := I 1) (n := I 170 9) (lo := 32) (hi := 32) (p := 0) t2.1).2
  have hok2 := bTxt_ok (B := I 1) (n := I 170 9) hO hq0
  rw [hRR] at hok2
  have mdl : ∀ (X : List (Nat × Nat)) (J : Nat → Int → Int) (F' : Nat → Int → Option Nat), Pl (sh ++ X) F' → Ag I J → J 171 = w ∧ J 170 9 = I 170 9 ∧ J 170 7 = I 170 7 ∧ (∀ k, 0 ≤ k → k < I 170 9 → (0 ≤ I 1 k ∧ I 1 k ≤ 255) ∧ J 176 k = sg8 (I 1 k)) := fun X J F' hPx hA => ⟨(hA 171 (by decide) (by decide)).trans hw, by rw [hA 170 (by decide) (by decide)], by rw [hA 170 (by decide) (by decide)], fun k k0 k1 => by rw [hA 176 (by decide) (by decide)]; exact t4 k k0 (by omega)⟩
  rcases hok2.2.2 with g | g
  · refine PrC_h (c := 1) (r := 0) (M' := mzK I w R.2.1 (I 170 7)) (jS_mono (cp_bank_1 (d := 31) hP hC hw hO hRR g) (fun o h ⟨J, F', h1, h2, h3⟩ => ⟨J, F', h1, h2, CaL_O h3⟩)) (by decide) rfl (fun X J F' hPx hA => ?_)
    obtain ⟨e1, e2, e3, e4⟩ := mdl X J F' hPx hA
    have := mp_bank_1 (G := G) (d := 30) (sh := sh ++ X) (I := J) (F := F') (B := I 1) hPx.1 hPx.2.1 e2 t2 e4 e1 hO hRR g
    rw [e3] at this
    exact jS_EP this (fun K hK => MdP_A hK (MEq_K (Ag_M hA)) (MI_K (MI_up hM) (OKw_B hO (by omega)) (Or.inl ⟨rfl, hw.symm⟩)))
  · by_cases g2 : w 1 = 12
    · refine PrC_h (c := 2) (r := 0) (M' := mzK I w (-1) (I 170 7)) (jS_mono (cp_bank_2 (d := 31) hP hC hw hO hRR g g2) (fun o h ⟨J, F', h1, h2, h3⟩ => ⟨J, F', h1, h2, CaL_O h3⟩)) (by decide) rfl (fun X J F' hPx hA => ?_)
      obtain ⟨e1, e2, e3, e4⟩ := mdl X J F' hPx hA
      have := mp_bank_2 (G := G) (d := 30) (sh := sh ++ X) (I := J) (F := F') (B := I 1) hPx.1 hPx.2.1 e2 t2 e4 e1 hO hRR g g2
      rw [e3] at this
      exact jS_EP this (fun K hK => MdP_A hK (MEq_K (Ag_M hA)) (MI_K (MI_up hM) (OKw_B hO (by omega)) (Or.inl ⟨rfl, hw.symm⟩)))
    · have hOt : OKw (b + 140000) (wup R.2.2 1 (w 1 + 1)) := by
        have h1 := OKw_B hok2.1 (show b + 139986 ≤ b + 140000 by omega)
        have h2 := hO.2.2.1
        obtain ⟨z1, z2, z3, z4, z5, z6, z7⟩ := h1
        have hz : ∀ k, k ≠ 1 → wup R.2.2 1 (w 1 + 1) k = R.2.2 k := fun k hk => wup_ne _ _ hk
        have e0 : aPe (wup R.2.2 1 (w 1 + 1)) = aPe R.2.2 := hz 0 (by decide)
        have q8 := z1.1
        exact ⟨WF_cong1 z1, by rw [hz 9 (by decide)]; exact z2, by rw [wup_same]; omega, by rw [hz 10 (by decide)]; exact z4, fun p p0 p1 => by rw [show aOf (wup R.2.2 1 (w 1 + 1)) p 4 = aOf R.2.2 p 4 from hz _ (by omega)]; exact z5 p p0 (by omega), fun p q p0 p1 q0 q1 => by rw [show aOw (wup R.2.2 1 (w 1 + 1)) p q = aOw R.2.2 p q from hz _ (by omega)]; exact z6 p q p0 (by omega) q0 (by omega), by rw [mTot_cong e0 (fun p q p0 p1 q0 q1 => hz _ (by omega))]; exact z7⟩
      refine PrC_a (N := fun J => mzK J (wup R.2.2 1 (w 1 + 1)) (-1) 0) (MI_K (MI_up hM) hOt (Or.inr rfl)) (fun J hA => MEq_K (Ag_M hA)) (cp_bank_0 (d := 31) hP hC hw hO hRR g g2) (fun X J F' hPx hA => ?_)
      obtain ⟨e1, e2, e3, e4⟩ := mdl X J F' hPx hA
      exact mp_bank_0 (d := 30) (B := I 1) hPx.1 hPx.2.1 e2 t2 e4 e1 hO hRR g g2
theorem pr_law (hI : INV b sh I F) (hb : 0 ≤ b ∧ b ≤ 800000000) : PrC G mX11_law mX12_law [xIae] [] sh I F (b + 140000) := by
  obtain ⟨hP, hC, hM, h159⟩ := id hI
  obtain ⟨hsh, hfx, hmm, hst, h12, h22⟩ := id hP
  obtain ⟨w, hw⟩ : ∃ w, I 171 = w := ⟨_, rfl⟩
  have hS : Sr sh I F 2 w := by rw [← hw]; exact hC.1
  have hR := hS.1
  have hL := hS.2.2.2
  have hG := hS.2.1
  have hO : OKw b w := by rw [← hw]; exact hM.1
  have hW := hO.1
  have hWP : WfP w := hW.1
  have hWD := WF_D hW
  have hWB := WF_B hW
  have hWA := WF_A hW
  have hWR := WF_R hW
  have h9 : 0 ≤ w 9 ∧ w 9 ≤ 900000000 := ⟨hO.2.1.1, by have := hO.2.1.2; omega⟩
  have h90 := h9.1
  have h10 := hO.2.2.2.1
  have h7 := hM.2.2.2.1
  have g8 : 0 ≤ aPe w ∧ aPe w ≤ 8 := hW.1
  obtain ⟨a1, a2, a3, ⟨m1, m2, m3, m4⟩, t1, t2, t3, t4⟩ := id hC
  obtain ⟨R, hRR⟩ : ∃ R, pTxt (I 1) (I 170 9) (lxB (I 1) (I 170 9) 0) w = R := ⟨_, rfl⟩
  have hqi := lx_le (B := I 1) (n := I 170 9) (lo := 32) (hi := 32) (p := 0) t2.1
  have hg := pTxt_g (B := I 1) (n := I 170 9) (q := lxB (I 1) (I 170 9) 0) (w := w) hqi t2.2
  rw [hRR] at hg
  have mdl : ∀ (X : List (Nat × Nat)) (J : Nat → Int → Int) (F' : Nat → Int → Option Nat), Pl (sh ++ X) F' → Ag I J → J 171 = w ∧ J 170 9 = I 170 9 ∧ J 170 7 = I 170 7 ∧ (∀ k, 0 ≤ k → k < I 170 9 → (0 ≤ I 1 k ∧ I 1 k ≤ 255) ∧ J 176 k = sg8 (I 1 k)) := fun X J F' hPx hA => ⟨(hA 171 (by decide) (by decide)).trans hw, by rw [hA 170 (by decide) (by decide)], by rw [hA 170 (by decide) (by decide)], fun k k0 k1 => by rw [hA 176 (by decide) (by decide)]; exact t4 k k0 (by omega)⟩
  rcases hg.1 with g | ⟨g, g1, g2, g3, g4⟩
  · have hM2 : MI (b + 140000) (mzK I w R.2.1 (I 170 7)) := MI_K (MI_up hM) (OKw_B hO (by omega)) (Or.inl ⟨rfl, hw.symm⟩)
    refine PrC_h (c := 1) (r := 0) (M' := mzK I w R.2.1 (I 170 7)) (cp_law_1 (d := 15) hP hC hw h159 hRR g) (by decide) rfl (fun X J F' hPx hA => ?_)
    obtain ⟨e1, e2, e3, e4⟩ := mdl X J F' hPx hA
    have := mp_law_1 (G := G) (d := 9) (sh := sh ++ X) (I := J) (F := F') (B := I 1) hPx.1 hPx.2.1 e2 t2 e4 e1 hRR g
    rw [e3] at this
    refine jS_EP this (fun K ⟨v, hv, hK⟩ => ?_)
    have hq : MEq (mzK I v R.2.1 (I 170 7)) K := MEq_tr (MEq_K (Ag_M hA)) hK.2.1
    exact ⟨hK.1, fun _ _ _ h => CR_M hq (CR_1269 hM2 (fun k hk => hv k (by omega)) h), MI_M hq (MI_1269 hM2 (fun k hk => hv k (by omega))), hK.2.2⟩
  · have hOt : OKw (b + 140000) (wLaw R.2.2.2 R.1) := OKw_B (OKw_law hO (fun k hk => g4 k (by omega)) ⟨g, g1⟩ (by omega) g3) (by omega)
    have hM2 : MI (b + 140000) (mzK I (wLaw R.2.2.2 R.1) (-1) 0) := MI_K (MI_up hM) hOt (Or.inr rfl)
    refine ⟨0, R.1, mzK I (wLaw R.2.2.2 R.1) (-1) 0, 4, 430, ⟨by omega, by omega, jS_mono (cp_law_0 (d := 15) hP hC hw h159 hRR g) (fun o h ⟨J, F', h1, h2, h3⟩ => ⟨lwX R.2.2.1, J, F', h2, h3, Or.inl ⟨rfl, h1⟩⟩)⟩, fun X J F' hPx hA => ?_⟩
    obtain ⟨e1, e2, e3, e4⟩ := mdl X J F' hPx hA
    exact jS_mono (mp_law_0 (d := 9) (B := I 1) hPx.1 hPx.2.1 e2 t2 e4 e1 hRR g) (fun o h ⟨K, h1, h2, h3⟩ => ⟨K, R.1, h1, h2, fun _ => rfl, MdP_A h3 (MEq_K (Ag_M hA)) hM2⟩)
end
