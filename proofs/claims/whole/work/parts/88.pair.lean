/-! A CALL OF BOTH -/
/-- the model's cells are as they were -/
def Ag (I J : Nat → Int → Int) : Prop := ∀ a, 170 ≤ a → a < 184 → J a = I a
theorem Ag_0 {I : Nat → Int → Int} : Ag I I := fun _ _ _ => rfl
theorem Ag_M {I J : Nat → Int → Int} (h : Ag I J) : MEq I J := ⟨h _ (by decide) (by decide), h _ (by decide) (by decide), h _ (by decide) (by decide), h _ (by decide) (by decide), by rw [h 170 (by decide) (by decide)], by rw [h 170 (by decide) (by decide)], by rw [h 170 (by decide) (by decide)], by rw [h 170 (by decide) (by decide)]⟩
theorem MEq_tr {M N K : Nat → Int → Int} (h : MEq M N) (h2 : MEq N K) : MEq M K := ⟨h2.1.trans h.1, h2.2.1.trans h.2.1, h2.2.2.1.trans h.2.2.1, h2.2.2.2.1.trans h.2.2.2.1, h2.2.2.2.2.1.trans h.2.2.2.2.1, h2.2.2.2.2.2.1.trans h.2.2.2.2.2.1, h2.2.2.2.2.2.2.1.trans h.2.2.2.2.2.2.1, h2.2.2.2.2.2.2.2.trans h.2.2.2.2.2.2.2⟩
theorem MEq_W {M N : Nat → Int → Int} {w : Int → Int} (h : MEq M N) : MEq (mzW M w) (mzW N w) := ⟨rfl, h.2.1, h.2.2.1, h.2.2.2.1, h.2.2.2.2.1, h.2.2.2.2.2.1, h.2.2.2.2.2.2.1, h.2.2.2.2.2.2.2⟩
theorem MEq_R {M N : Nat → Int → Int} (h : MEq M N) : MEq (mzR M) (mzR N) := by
  obtain ⟨h1, h2, h3, h4, h5, h6, h7, h8⟩ := h
  refine ⟨h1, h2, ?_, h4, ?_, ?_, ?_, ?_⟩
  · show mRem (N 175) (N 171) (N 170 7) = mRem (M 175) (M 171) (M 170 7)
    rw [h1, h3, h6]
  · rw [mzR_k (by decide), mzR_k (by decide)]; exact h5
  · rw [mzR_7, mzR_7, h6]
  · rw [mzR_k (by decide), mzR_k (by decide)]; exact h7
  · rw [mzR_k (by decide), mzR_k (by decide)]; exact h8
theorem MEq_T {M N : Nat → Int → Int} {T : Int → Int} {t : Int} (h : MEq M N) : MEq (mzT M T t) (mzT N T t) := by
  obtain ⟨h1, h2, h3, h4, h5, h6, h7, h8⟩ := h
  refine ⟨h1, h2, h3, rfl, ?_, ?_, ?_, ?_⟩
  · rw [mzT_k (by decide), mzT_k (by decide)]; exact h5
  · rw [mzT_k (by decide), mzT_k (by decide)]; exact h6
  · exact (wup_same (N 170) 9 t).trans (wup_same (M 170) 9 t).symm
  · rw [mzT_k (by decide), mzT_k (by decide)]; exact h8
theorem MEq_K {M N : Nat → Int → Int} {w : Int → Int} {f r : Int} (h : MEq M N) : MEq (mzK M w f r) (mzK N w f r) := by
  obtain ⟨h1, h2, h3, h4, h5, h6, h7, h8⟩ := h
  refine ⟨rfl, ?_, ?_, ?_, ?_, rfl, rfl, rfl⟩
  · rw [mzK_o (by decide) (by decide), mzK_o (by decide) (by decide)]; exact h2
  · rw [mzK_o (by decide) (by decide), mzK_o (by decide) (by decide)]; exact h3
  · rw [mzK_o (by decide) (by decide), mzK_o (by decide) (by decide)]; exact h4
  · rw [mzK_6, mzK_6]; exact h5
/-- what the model's call leaves -/
def MdP (b c : Int) (M' J K : Nat → Int → Int) : Prop := K 170 0 = c ∧ (∀ (s0 : List (Nat × Nat)) (J0 : Nat → Int → Int) (F0 : Nat → Int → Option Nat), CR s0 J0 F0 M' → CR s0 J0 F0 K) ∧ MI b K ∧ ∀ a, (a < 170 ∨ 183 < a) → K a = J a
theorem MdP_A {b c : Int} {M' N J K : Nat → Int → Int} (h : AcO c J N K) (e : MEq M' N) (hM : MI b M') : MdP b c M' J K := ⟨h.1, fun _ _ _ hc => CR_M (MEq_tr e h.2.1) hc, MI_M (MEq_tr e h.2.1) hM, h.2.2⟩
/-- the class and the model are called with the same: the same code, the same answer; T says what is thrown at a code -/
def PrC (G : jzG) (Mc Mm : jzM) (T : List String) (As : List jzV) (sh : List (Nat × Nat)) (I : Nat → Int → Int) (F : Nat → Int → Option Nat) (b : Int) : Prop := ∃ (c r : Int) (M' : Nat → Int → Int) (mc ms : Nat),
  (mc ≤ 4 ∧ ms ≤ 430 ∧ jS G 40 Mc (jR (some 0) :: As) (sh, I, F) mc ms (fun o h => ∃ X J F', h = (sh ++ X, J, F') ∧ CaL sh.length (sh ++ X) I M' J F' ∧ ((c = 0 ∧ o = .inl (some (jI r))) ∨ (0 < c ∧ ∃ E, o = .inr E ∧ T[(c - 1).toNat]? = some E)))) ∧
  ∀ (X : List (Nat × Nat)) (J : Nat → Int → Int) (F' : Nat → Int → Option Nat), Pl (sh ++ X) F' → Ag I J → jS G 40 Mm (jR (some 170) :: As) (sh ++ X, J, F') 0 0 (fun o h => ∃ K r', o = .inl (some (jI r')) ∧ h = (sh ++ X, K, F') ∧ (c = 0 → r' = r) ∧ MdP b c M' J K)
/-- all that holds between two calls -/
def INV (b : Int) (sh : List (Nat × Nat)) (I : Nat → Int → Int) (F : Nat → Int → Option Nat) : Prop := Pl sh F ∧ CR sh I F I ∧ MI b I ∧ I 159 0 = 0
section
variable {G : jzG} {sh : List (Nat × Nat)} {I : Nat → Int → Int} {F : Nat → Int → Option Nat} {b c r : Int} {Mc Mm : jzM} {T : List String} {As : List jzV}
theorem INV_CaL (h : INV b sh I F) : CaL sh.length (sh ++ []) I I I F := by
  rw [List.append_nil]
  exact ⟨h.1, h.2.1, fun _ _ _ => rfl, rfl⟩
theorem MI_up (h : MI b I) : MI (b + 140000) I := MI_B h (by omega)
/-- a question that is answered -/
theorem PrC_q (hI : INV b sh I F) (hc : jS G 40 Mc (jR (some 0) :: As) (sh, I, F) 0 0 (rI r (sh, I, F))) (hm : ∀ (X : List (Nat × Nat)) (J : Nat → Int → Int) (F' : Nat → Int → Option Nat), Pl (sh ++ X) F' → Ag I J → jS G 40 Mm (jR (some 170) :: As) (sh ++ X, J, F') 0 0 (rI r (sh ++ X, jup J 170 0 0, F'))) : PrC G Mc Mm T As sh I F (b + 140000) := by
  refine ⟨0, r, I, 0, 0, ⟨by omega, by omega, jS_mono hc (fun o h ⟨h1, h2⟩ => ⟨[], I, F, by rw [List.append_nil]; exact h2, INV_CaL hI, Or.inl ⟨rfl, h1⟩⟩)⟩, fun X J F' hP hA => jS_mono (hm X J F' hP hA) (fun o h ⟨h1, h2⟩ => ⟨_, r, h1, h2, fun _ => rfl, MdP_A AcO_0 (Ag_M hA) (MI_up hI.2.2.1)⟩)⟩
/-- something is thrown, and nothing has changed -/
theorem PrC_x {E : String} (hI : INV b sh I F) (hc : jS G 40 Mc (jR (some 0) :: As) (sh, I, F) 1 6 (rX E (sh, I, F))) (c0 : 0 < c) (hT : T[(c - 1).toNat]? = some E) (hm : ∀ (X : List (Nat × Nat)) (J : Nat → Int → Int) (F' : Nat → Int → Option Nat), Pl (sh ++ X) F' → Ag I J → jS G 40 Mm (jR (some 170) :: As) (sh ++ X, J, F') 0 0 (rI r (sh ++ X, jup J 170 0 c, F'))) : PrC G Mc Mm T As sh I F (b + 140000) := by
  refine ⟨c, r, I, 1, 6, ⟨by omega, by omega, jS_mono hc (fun o h ⟨h1, h2⟩ => ⟨[], I, F, by rw [List.append_nil]; exact h2, INV_CaL hI, Or.inr ⟨c0, E, h1, hT⟩⟩)⟩, fun X J F' hP hA => jS_mono (hm X J F' hP hA) (fun o h ⟨h1, h2⟩ => ⟨_, r, h1, h2, fun _ => rfl, MdP_A AcO_0 (Ag_M hA) (MI_up hI.2.2.1)⟩)⟩
/-- an act -/
theorem PrC_a {M' : Nat → Int → Int} {N : (Nat → Int → Int) → Nat → Int → Int} (hM : MI (b + 140000) M') (hN : ∀ J, Ag I J → MEq M' (N J)) (hc : jS G 40 Mc (jR (some 0) :: As) (sh, I, F) 0 0 (rHI r sh (CaO sh I M'))) (hm : ∀ (X : List (Nat × Nat)) (J : Nat → Int → Int) (F' : Nat → Int → Option Nat), Pl (sh ++ X) F' → Ag I J → jS G 40 Mm (jR (some 170) :: As) (sh ++ X, J, F') 0 0 (rEI r (sh ++ X) F' (AcO 0 J (N J)))) : PrC G Mc Mm T As sh I F (b + 140000) := by
  refine ⟨0, r, M', 0, 0, ⟨by omega, by omega, jS_mono hc (fun o h ⟨J, F', h1, h2, h3⟩ => ⟨[], J, F', by rw [List.append_nil]; exact h2, by rw [List.append_nil]; exact CaL_O h3, Or.inl ⟨rfl, h1⟩⟩)⟩, fun X J F' hP hA => jS_mono (hm X J F' hP hA) (fun o h ⟨K, h1, h2, h3⟩ => ⟨K, r, h1, h2, fun _ => rfl, MdP_A h3 (hN J hA) hM⟩)⟩
theorem CaL_G {J : Nat → Int → Int} (hI : INV b sh I F) (hf : FrG I J) : CaL sh.length (sh ++ []) I I J (jup F 12 18 (F 2 18)) := by
  rw [List.append_nil]
  exact ⟨Pl_F hI.1, CR_F12 (CR_fr hI.2.1 (fun a ha => hf a (by omega) (by omega))), fun a a0 _ => hf a (by omega) (by omega), by rw [hf 159 (by decide) (by decide)]⟩
/-- a question of days ahead -/
theorem PrC_g (hI : INV b sh I F) (hc : jS G 40 Mc (jR (some 0) :: As) (sh, I, F) 0 0 (rEI r sh (jup F 12 18 (F 2 18)) (FrG I))) (hm : ∀ (X : List (Nat × Nat)) (J : Nat → Int → Int) (F' : Nat → Int → Option Nat), Pl (sh ++ X) F' → Ag I J → jS G 40 Mm (jR (some 170) :: As) (sh ++ X, J, F') 0 0 (rEI r (sh ++ X) F' (FrT 0 J))) : PrC G Mc Mm T As sh I F (b + 140000) := by
  refine ⟨0, r, I, 0, 0, ⟨by omega, by omega, jS_mono hc (fun o h ⟨J, h1, h2, h3⟩ => ⟨[], J, _, by rw [List.append_nil]; exact h2, CaL_G hI h3, Or.inl ⟨rfl, h1⟩⟩)⟩, fun X J F' hP hA => jS_mono (hm X J F' hP hA) (fun o h ⟨K, h1, h2, h3⟩ => ⟨K, r, h1, h2, fun _ => rfl, MdP_A (AcO_T h3) (Ag_M hA) (MI_up hI.2.2.1)⟩)⟩
/-- the same rows to 1269 -/
theorem CR_1269 {M : Nat → Int → Int} {v w : Int → Int} {f r : Int} (hM : MI b (mzK M v f r)) (hv : ∀ k, k < 1269 → w k = v k) {s0 : List (Nat × Nat)} {J0 : Nat → Int → Int} {F0 : Nat → Int → Option Nat} (h : CR s0 J0 F0 (mzK M v f r)) : CR s0 J0 F0 (mzK M w f r) := by
  obtain ⟨a1, a2, a3, ⟨m1, m2, m3, m4⟩, t⟩ := h
  obtain ⟨o1, o2, o3, o4, o5⟩ := hM
  refine ⟨Sr_w a1 o1.1 (fun k _ hk => hv k hk), a2, a3, ⟨m1, m2, m3, fun j j0 j1 => ?_⟩, t⟩
  have j1' : j < r := j1
  refine Sr_w (m4 j j0 j1') (o5 j j0 j1').1 (fun k k0 k1 => ?_)
  show mCpy w (fun k => mzK M w f r 175 (420 * j + k)) 420 k = mCpy v (fun k => mzK M v f r 175 (420 * j + k)) 420 k
  unfold mCpy
  by_cases c : 0 ≤ k ∧ k < 420
  · rw [if_pos c, if_pos c, mzK_o (by decide) (by decide), mzK_o (by decide) (by decide)]
  · rw [if_neg c, if_neg c]; exact hv k k1
theorem MI_1269 {M : Nat → Int → Int} {v w : Int → Int} {f r : Int} (hM : MI b (mzK M v f r)) (hv : ∀ k, k < 1269 → w k = v k) : MI b (mzK M w f r) := by
  obtain ⟨o1, o2, o3, o4, o5⟩ := hM
  refine ⟨OKw_w o1 (fun k _ hk => hv k hk), o2, o3, o4, fun j j0 j1 => ?_⟩
  refine OKw_w (o5 j j0 j1) (fun k k0 k1 => ?_)
  show mCpy w (fun k => mzK M w f r 175 (420 * j + k)) 420 k = mCpy v (fun k => mzK M v f r 175 (420 * j + k)) 420 k
  unfold mCpy
  by_cases c : 0 ≤ k ∧ k < 420
  · rw [if_pos c, if_pos c, mzK_o (by decide) (by decide), mzK_o (by decide) (by decide)]
  · rw [if_neg c, if_neg c]; exact hv k k1
end
