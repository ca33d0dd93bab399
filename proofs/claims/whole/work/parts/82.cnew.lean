/-! A NEW LAW IN THE CLASS -/
theorem get_app {sh X : List (Nat × Nat)} {i : Nat} {v : Nat × Nat} (h : sh[i]? = some v) : (sh ++ X)[i]? = some v := by
  rw [List.getElem?_append_left (List.getElem?_eq_some_iff.mp h).1]; exact h
theorem get_lt {sh : List (Nat × Nat)} {i : Nat} {v : Nat × Nat} (h : sh[i]? = some v) : i < sh.length := (List.getElem?_eq_some_iff.mp h).1
theorem get_end {sh X : List (Nat × Nat)} {v : Nat × Nat} : (sh ++ v :: X)[sh.length]? = some v := by
  rw [List.getElem?_append_right (Nat.le_refl _), Nat.sub_self]; rfl
theorem ShOK_app {sh X : List (Nat × Nat)} (h : ShOK sh) : ShOK (sh ++ X) := fun i v hi => get_app (h i v hi)
theorem ShOK_len {sh : List (Nat × Nat)} (h : ShOK sh) : 185 ≤ sh.length := get_lt (h 184 (13, 1) rfl)
theorem fxL_lt {a : Nat} {k : Int} {b : Nat} (h : fxL a k = some b) : a ≤ 170 := by
  unfold fxL at h
  cases e : fxB.find? (fun q => q.1 == a && q.2.1 == k) with
  | none => rw [e] at h; cases h
  | some q =>
    have h1 := List.mem_of_find?_eq_some e
    have h2 := List.find?_some e
    have h3 : ∀ q ∈ fxB, q.1 ≤ 170 := by decide
    have h4 : q.1 = a := by
      have := (Bool.and_eq_true_iff.mp h2).1
      exact beq_iff_eq.mp this
    rw [← h4]
    exact h3 q h1
theorem FxOK_eq {F F' : Nat → Int → Option Nat} (h : FxOK F) (hf : ∀ a, a ≤ 170 → F' a = F a) : FxOK F' := fun a k b hb => by rw [hf a (fxL_lt hb)]; exact h a k b hb
theorem StAt_app {sh X : List (Nat × Nat)} {F F' : Nat → Int → Option Nat} {s : Nat} (h : StAt sh F s) (hs : ∀ k, k ≠ 18 → F' s k = F s k) (hs8 : F' (s + 8) = F (s + 8)) : StAt (sh ++ X) F' s := by
  obtain ⟨g0, g1, g2, g3, g4, g5, g6, g7, g8, g9, e1, e2, e3, e4, e5, e6, e7, e8, e9⟩ := h
  exact ⟨get_app g0, get_app g1, get_app g2, get_app g3, get_app g4, get_app g5, get_app g6, get_app g7, get_app g8, get_app g9, (hs _ (by decide)).trans e1, (hs _ (by decide)).trans e2, (hs _ (by decide)).trans e3, (hs _ (by decide)).trans e4, (hs _ (by decide)).trans e5, (hs _ (by decide)).trans e6, (hs _ (by decide)).trans e7, (hs _ (by decide)).trans e8, by rw [hs8]; exact e9⟩
theorem Pl_app {sh X : List (Nat × Nat)} {F F' : Nat → Int → Option Nat} (h : Pl sh F) (hf : ∀ a, a ≤ 170 → F' a = F a) : Pl (sh ++ X) F' := by
  obtain ⟨h1, h2, h3, h4, h5, h6⟩ := h
  refine ⟨ShOK_app h1, FxOK_eq h2 hf, fun x x0 x1 => ?_, StAt_app h4 (fun k _ => by rw [hf 2 (by decide)]) (hf 10 (by decide)), StAt_app h5 (fun k _ => by rw [hf 12 (by decide)]) (hf 20 (by decide)), StAt_app h6 (fun k _ => by rw [hf 22 (by decide)]) (hf 30 (by decide))⟩
  have hp : mPl x = 34 + 10 * x.toNat := rfl
  exact ⟨by rw [hf 33 (by decide)]; exact (h3 x x0 x1).1, StAt_app (h3 x x0 x1).2 (fun k _ => by rw [hf _ (by omega)]) (hf _ (by omega))⟩
theorem LawAt_app {sh X : List (Nat × Nat)} {I J : Nat → Int → Int} {F F' : Nat → Int → Option Nat} {l : Nat} {w : Int → Int} (h : LawAt sh I F l w) (hJ : ∀ a, 185 ≤ a → a < sh.length → J a = I a) (hF : ∀ a, 185 ≤ a → a < sh.length → F' a = F a) : LawAt (sh ++ X) J F' l w := by
  obtain ⟨h1, h2, la, ls, lc, n, ⟨f1, f2, f3⟩, ⟨p1, p2, p3⟩, ⟨s1, s2, s3⟩, h0, hk⟩ := h
  have l0 := get_lt h1
  refine ⟨get_app h1, h2, la, ls, lc, n, ⟨by rw [hF l h2 l0]; exact f1, by rw [hF l h2 l0]; exact f2, by rw [hF l h2 l0]; exact f3⟩, ⟨p1, p2, p3⟩, ⟨get_app s1, get_app s2, get_app s3⟩, by rw [hJ l h2 l0]; exact h0, fun k k0 k1 => ?_⟩
  rw [hJ l h2 l0, hJ la p1 (get_lt s1), hJ ls p2 (get_lt s2), hJ lc p3 (get_lt s3)]
  exact hk k k0 k1
theorem LwR_app {sh X : List (Nat × Nat)} {I J : Nat → Int → Int} {F F' : Nat → Int → Option Nat} {s : Nat} {w : Int → Int} (h : LwR sh I F s w) (hs : F' s 18 = F s 18) (hJ : ∀ a, 185 ≤ a → a < sh.length → J a = I a) (hF : ∀ a, 185 ≤ a → a < sh.length → F' a = F a) : LwR (sh ++ X) J F' s w := by
  rcases h with ⟨h1, h2⟩ | ⟨h1, l, h2, h3⟩
  · exact Or.inl ⟨h1, hs.trans h2⟩
  · exact Or.inr ⟨h1, l, hs.trans h2, LawAt_app h3 hJ hF⟩
theorem Sr_app {sh X : List (Nat × Nat)} {I J : Nat → Int → Int} {F F' : Nat → Int → Option Nat} {s : Nat} {w : Int → Int} (h : Sr sh I F s w) (h1 : ∀ a, s ≤ a → a ≤ s + 9 → J a = I a) (hs : F' s 18 = F s 18) (hJ : ∀ a, 185 ≤ a → a < sh.length → J a = I a) (hF : ∀ a, 185 ≤ a → a < sh.length → F' a = F a) : Sr (sh ++ X) J F' s w :=
  ⟨Rp_fr h.1 (fun a a0 a1 => h1 a (by omega) (by omega)), Lg_fr h.2.1 (h1 _ (by omega) (by omega)) (h1 _ (by omega) (by omega)), by rw [h1 s (by omega) (by omega)]; exact h.2.2.1, LwR_app h.2.2.2 hs hJ hF⟩
/-- words of copies -/
theorem wc_2 : Cond.sameMethod "[I" "java/lang/Object" "clone" "()Ljava/lang/Object;" ∈ lw_good := lw_in 1001 (by decide +kernel) (by decide +kernel)
theorem wc_3 : Cond.native ⟨"java/lang/Object", "clone", "()Ljava/lang/Object;"⟩ ∈ lw_good := lw_in 1002 (by decide +kernel) (by decide +kernel)
theorem wc_4 : Cond.instanceMethod ⟨"java/lang/Object", "clone", "()Ljava/lang/Object;"⟩ ∈ lw_good := lw_in 1003 (by decide +kernel) (by decide +kernel)
theorem wc_5 : Cond.selects "[I" ⟨"[I", "clone", "()Ljava/lang/Object;"⟩ ⟨"java/lang/Object", "clone", "()Ljava/lang/Object;"⟩ ∈ lw_good := lw_in 1004 (by decide +kernel) (by decide +kernel)
theorem wc_6 : Cond.castable "[I" "java/lang/Cloneable" ∈ lw_tbl := List.mem_of_getElem? (i := 1005) (by decide +kernel)
theorem wc_1 : Cond.methodLink RX5 18 ⟨"[I", "clone", "()Ljava/lang/Object;"⟩ ∈ lw_good := lw_in 1013 (by decide +kernel) (by decide +kernel)
theorem wc_7 : Cond.classLink RX5 19 "[I" ∈ lw_good := lw_in 1014 (by decide +kernel) (by decide +kernel)
theorem ciX6_53 : jCI RX6 53 5 mX5_init := ⟨lw_in 1009 (by decide +kernel) (by decide +kernel), lw_in 1010 (by decide +kernel) (by decide +kernel), wn_2, lw_in 1011 (by decide +kernel) (by decide +kernel), rfl, by decide +kernel, rfl, by decide, rfl⟩
def clI (I : Nat → Int → Int) (i L : Nat) : Nat → Int → Int := fun a b => if a = L then I i b else I a b
theorem clI_s {I : Nat → Int → Int} {i L : Nat} : clI I i L L = I i := by funext b; exact if_pos rfl
theorem clI_o {I : Nat → Int → Int} {i L a : Nat} (h : a ≠ L) : clI I i L a = I a := by funext b; exact if_neg h
theorem jnw_o {α : Type} {f : Nat → Int → α} {n a : Nat} {v : α} (h : a ≠ n) : jnw f n v a = f a := by funext b; exact if_neg h
section
variable {G : jzG} {d : Nat} {sh : List (Nat × Nat)} {I : Nat → Int → Int} {F : Nat → Int → Option Nat} {B : Int → Int} {n q m : Int} {w : Int → Int}
theorem sj_copyOf {s : List (Nat × Nat)} {i len : Nat} (hi : s[i]? = some (11, len)) (hm : 0 ≤ m ∧ m < len) (hl : len ≤ 400) : jS G d mJ7_copyOf_59c91 [jR (some i), jI m] (s, I, F) 1 (0 + m.toNat) (rR (some s.length) (s ++ [(11, m.toNat)], jcp (jnw I s.length 0) i 0 s.length 0 m, jnw F s.length none)) := by
  refine jS_go [some (jR (some i)), some (jI m), none] (by decide +kernel) rfl (by simp [jone]) (Nat.le_of_ble_eq_true rfl) rfl (fun hok => ?_)
  obtain ⟨s1, hs1⟩ : ∃ x, x = s ++ [(11, m.toNat)] := ⟨_, rfl⟩
  obtain ⟨I1, hI1⟩ : ∃ x, x = jnw I s.length 0 := ⟨_, rfl⟩
  obtain ⟨F1, hF1⟩ : ∃ x, x = jnw F s.length none := ⟨_, rfl⟩
  obtain ⟨j, hj⟩ : ∃ x, x = s.length := ⟨_, rfl⟩
  have e1 : jzNew (s, I, F) 11 m.toNat = (s1, I1, F1) := by rw [hs1, hI1, hF1]; rfl
  have h1 : s1[i]? = some (11, len) := by rw [hs1]; exact get_app hi
  have h2 : s1[j]? = some (11, m.toNat) := by rw [hs1, hj]; exact get_end
  rw [← hs1, ← hI1, ← hF1, ← hj]
  have hmin : min (len : Int) m = m := by omega
  refine j_iload_n dJ7_copyOf_59c91_0 rfl ?_
  refine j_aload_n dJ7_copyOf_59c91_1 rfl ?_
  refine r_alen dJ7_copyOf_59c91_2 (by first | assumption | exact hsh _ _ rfl) ?_
  refine j_icmp_ne (tgt := 14) dJ7_copyOf_59c91_3 rfl (by first | omega | (split <;> omega)) (by first | omega | (split <;> omega)) (fun c_3 => ?_) (fun c_3 => by exact absurd (Classical.not_not.1 c_3) (by omega))
  refine j_iload_n dJ7_copyOf_59c91_14 rfl ?_
  refine j_newarr (kd := 11) (t0 := 1) (ty := .int) (len := m.toNat) dJ7_copyOf_59c91_15 (Or.inr (Or.inl ⟨rfl, rfl, rfl⟩)) rfl wr_int (by omega) (by omega) ?_
  rw [e1, show ((s, I, F) : jzH).1.length = j from hj.symm]
  refine j_astore_n dJ7_copyOf_59c91_17 (by decide) ?_
  refine j_aload_n dJ7_copyOf_59c91_18 rfl ?_
  refine j_iconst dJ7_copyOf_59c91_19 ?_
  refine j_aload_n dJ7_copyOf_59c91_20 rfl ?_
  refine j_iconst dJ7_copyOf_59c91_21 ?_
  refine j_aload_n dJ7_copyOf_59c91_22 rfl ?_
  refine r_alen dJ7_copyOf_59c91_23 (by first | assumption | exact hsh _ _ rfl) ?_
  refine j_iload_n dJ7_copyOf_59c91_24 rfl ?_
  refine r_min dJ7_copyOf_59c91_25 lmJ7_304 (Nat.le_of_ble_eq_true rfl) (by first | omega | (split <;> omega)) (by first | omega | (split <;> omega)) ?_
  rw [hmin]
  refine r_copy dJ7_copyOf_59c91_28 lmJ7_150 (by first | assumption | exact hsh _ _ rfl) (by first | assumption | exact hsh _ _ rfl) (by first | omega | (split <;> omega)) (by first | omega | (split <;> omega)) (by first | omega | (split <;> omega)) (by first | omega | (split <;> omega)) (by first | omega | (split <;> omega)) (Nat.le_of_ble_eq_true rfl) ?_
  refine j_aload_n dJ7_copyOf_59c91_31 rfl ?_
  refine j_aret dJ7_copyOf_59c91_32 rfl (Or.inr ⟨_, rfl⟩) ?_
  exact rR_of rfl rfl
/-- a law is made -/
theorem sc_lawInit {s : List (Nat × Nat)} {l c : Nat} {a b : Int} (hl : s[l]? = some (2, 0)) (h8 : s[158]? = some (11, 12)) (h9 : s[159]? = some (11, 13)) (ja : jin a) (jb : jin b) : jS G d mX5_init [jR (some l), jI a, jI b, jR (some 158), jR (some 159), jR (some c)] (s, I, F) 2 25 (rV (s ++ [(11, 12)] ++ [(11, 13)], clI (clI (jup (jup I l 0 a) l 1 b) 158 s.length) 159 (s.length + 1), jup (jup (jnw (jup (jnw F s.length none) l 2 (some s.length)) (s.length + 1) none) l 3 (some (s.length + 1))) l 4 (some c))) := by
  refine jS_go [some (jR (some l)), some (jI a), some (jI b), some (jR (some 158)), some (jR (some 159)), some (jR (some c))] (by decide +kernel) rfl (by simp [jone]) (Nat.le_of_ble_eq_true rfl) rfl (fun hok => ?_)
  obtain ⟨s1, hs1⟩ : ∃ x, x = s ++ [(11, 12)] := ⟨_, rfl⟩
  obtain ⟨j, hj⟩ : ∃ x, x = s.length := ⟨_, rfl⟩
  have hj1 : s1.length = j + 1 := by rw [hs1, hj, List.length_append]; rfl
  obtain ⟨I1, hI1⟩ : ∃ x, x = jup (jup I l 0 a) l 1 b := ⟨_, rfl⟩
  obtain ⟨I2, hI2⟩ : ∃ x, x = clI I1 158 j := ⟨_, rfl⟩
  obtain ⟨F2, hF2⟩ : ∃ x, x = jnw F j none := ⟨_, rfl⟩
  obtain ⟨F3, hF3⟩ : ∃ x, x = jup F2 l 2 (some j) := ⟨_, rfl⟩
  obtain ⟨s2, hs2⟩ : ∃ x, x = s1 ++ [(11, 13)] := ⟨_, rfl⟩
  obtain ⟨I4, hI4⟩ : ∃ x, x = clI I2 159 (j + 1) := ⟨_, rfl⟩
  obtain ⟨F4, hF4⟩ : ∃ x, x = jnw F3 (j + 1) none := ⟨_, rfl⟩
  have e1 : jzCl (s, I1, F) 158 12 = (s1, I2, F2) := by rw [hs1, hI2, hF2, hj]; rfl
  have e2 : jzCl (s1, I2, F3) 159 13 = (s2, I4, F4) := by rw [hs2, hI4, hF4, ← hj1]; rfl
  have a1 : s1[l]? = some (2, 0) := by rw [hs1]; exact get_app hl
  have a2 : s1[159]? = some (11, 13) := by rw [hs1]; exact get_app h9
  have a3 : s1[j]? = some (11, 12) := by rw [hs1, hj]; exact get_end
  have b1 : s2[l]? = some (2, 0) := by rw [hs2]; exact get_app a1
  have b3 : s2[j + 1]? = some (11, 13) := by rw [hs2, ← hj1]; exact get_end
  rw [← hs1, ← hs2, ← hj, ← hI1, ← hI2, ← hI4, ← hF2, ← hF3, ← hF4]
  have k1 : ((s, I1, F) : jzH).1.length = j := hj.symm
  have k2 : ((s1, I2, F3) : jzH).1.length = j + 1 := hj1
  refine j_aload_n dX5_init_0 rfl ?_
  refine r_objInit dX5_init_1 lmX5_3 (Nat.le_of_ble_eq_true rfl) ?_
  refine j_aload_n dX5_init_4 rfl ?_
  refine j_iload_n dX5_init_5 rfl ?_
  refine r_putFI dX5_init_6 flX5_9 rfl rfl rfl (by first | assumption | exact hsh _ _ rfl) (by first | omega | (split <;> omega)) (fun q => by cases q) ?_
  refine j_aload_n dX5_init_9 rfl ?_
  refine j_iload_n dX5_init_10 rfl ?_
  refine r_putFI dX5_init_11 flX5_15 rfl rfl rfl (by first | assumption | exact hsh _ _ rfl) (by first | omega | (split <;> omega)) (fun q => by cases q) ?_
  rw [← hI1]
  refine j_aload_n dX5_init_14 rfl ?_
  refine j_aload_n dX5_init_15 rfl ?_
  refine j_clone (h := (s, I1, F)) (i := 158) (len := 12) (S := [jR (some l)]) dX5_init_16 wc_1 wc_2 wc_3 wc_4 wc_5 wc_6 h8 (Nat.le_of_ble_eq_true rfl) ?_
  rw [e1, k1]
  refine j_castI (h := (s1, I2, F2)) dX5_init_19 wc_7 a3 ?_
  refine r_putFR dX5_init_22 flX5_24 rfl rfl rfl (by first | assumption | exact hsh _ _ rfl) ?_
  rw [← hF3]
  refine j_aload_n dX5_init_25 rfl ?_
  refine j_aload dX5_init_26 rfl ?_
  refine j_clone (h := (s1, I2, F3)) (i := 159) (len := 13) (S := [jR (some l)]) dX5_init_28 wc_1 wc_2 wc_3 wc_4 wc_5 wc_6 a2 (Nat.le_of_ble_eq_true rfl) ?_
  rw [e2, k2]
  refine j_castI (h := (s2, I4, F4)) dX5_init_31 wc_7 b3 ?_
  refine r_putFR dX5_init_34 flX5_27 rfl rfl rfl (by first | assumption | exact hsh _ _ rfl) ?_
  refine j_aload_n dX5_init_37 rfl ?_
  refine j_aload dX5_init_38 rfl ?_
  refine r_putFR dX5_init_40 flX5_30 rfl rfl rfl (by first | assumption | exact hsh _ _ rfl) ?_
  refine j_vret dX5_init_43 rfl ?_
  exact rV_of rfl
end
