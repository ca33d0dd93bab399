/-! THE CLASS'S STATE: its cells at s, s + 1, .. -/
def StAt (sh : List (Nat × Nat)) (F : Nat → Int → Option Nat) (s : Nat) : Prop :=
  sh[s]? = some (6, 0) ∧ sh[s + 1]? = some (11, 8) ∧ sh[s + 2]? = some (11, 56) ∧ sh[s + 3]? = some (11, 8) ∧ sh[s + 4]? = some (11, 8) ∧ sh[s + 5]? = some (11, 8) ∧ sh[s + 6]? = some (11, 8) ∧ sh[s + 7]? = some (11, 64) ∧ sh[s + 8]? = some (4, 0) ∧ sh[s + 9]? = some (11, 240) ∧
  F s 2 = some (s + 1) ∧ F s 3 = some (s + 2) ∧ F s 4 = some (s + 3) ∧ F s 5 = some (s + 4) ∧ F s 6 = some (s + 5) ∧ F s 7 = some (s + 6) ∧ F s 8 = some (s + 7) ∧ F s 19 = some (s + 8) ∧ F (s + 8) 0 = some (s + 9)
section
variable {G : jzG} {d : Nat} {sh : List (Nat × Nat)} {I : Nat → Int → Int} {F : Nat → Int → Option Nat} {s : Nat}
abbrev cAl (I : Nat → Int → Int) (s : Nat) (p : Int) : Prop := 0 ≤ p ∧ p < I s 0 ∧ jbit (I s 1) p
theorem sp_isAlive (hs : StAt sh F s) {p : Int} (hp : jin p) : jS G d mX9_isAlive [jR (some s), jI p] (sh, I, F) 0 0 (rI (if cAl I s p then 1 else 0) (sh, I, F)) := by
  obtain ⟨g0, g1, g2, g3, g4, g5, g6, g7, g8, g9, e1, e2, e3, e4, e5, e6, e7, e8, e9⟩ := id hs
  refine jS_go [some (jR (some s)), some (jI p)] (by decide +kernel) rfl (by simp [jone]) (Nat.le_of_ble_eq_true rfl) rfl (fun hok => ?_)
  refine j_iload_n dX9_isAlive_0 rfl ?_
  refine j_if_lt (tgt := 28) dX9_isAlive_1 rfl (by first | omega | (split <;> omega)) (fun c_1 => ?_) (fun c_1 => ?_)
  · refine j_iconst dX9_isAlive_28 ?_
    refine j_zret dX9_isAlive_29 rfl (by omega) ?_
    exact rI_of (by simp only [cAl, jbit]; split <;> omega) rfl
  · refine j_iload_n dX9_isAlive_4 rfl ?_
    refine j_aload_n dX9_isAlive_5 rfl ?_
    refine r_getI dX9_isAlive_6 flX9_57 (by first | assumption | exact hsh _ _ rfl) (fun b_6 => ?_)
    refine j_icmp_ge (tgt := 28) dX9_isAlive_9 rfl (by first | omega | (split <;> omega)) (by first | omega | (split <;> omega)) (fun c_9 => ?_) (fun c_9 => ?_)
    · refine j_iconst dX9_isAlive_28 ?_
      refine j_zret dX9_isAlive_29 rfl (by omega) ?_
      exact rI_of (by simp only [cAl, jbit]; split <;> omega) rfl
    · refine j_aload_n dX9_isAlive_12 rfl ?_
      refine r_getI dX9_isAlive_13 flX9_60 (by first | assumption | exact hsh _ _ rfl) (fun b_13 => ?_)
      refine j_iload_n dX9_isAlive_16 rfl ?_
      refine r_ishr dX9_isAlive_17 (fun b_17 => ?_)
      refine j_iconst dX9_isAlive_18 ?_
      refine r_iand dX9_isAlive_19 (fun b_19 => ?_)
      refine j_iconst dX9_isAlive_20 ?_
      refine j_icmp_ne (tgt := 28) dX9_isAlive_21 rfl (by first | omega | (split <;> omega)) (by first | omega | (split <;> omega)) (fun c_21 => ?_) (fun c_21 => ?_)
      · refine j_iconst dX9_isAlive_28 ?_
        refine j_zret dX9_isAlive_29 rfl (by omega) ?_
        exact rI_of (by simp only [cAl, jbit]; split <;> omega) rfl
      · refine j_iconst dX9_isAlive_24 ?_
        refine j_goto (tgt := 29) dX9_isAlive_25 rfl ?_
        refine j_zret dX9_isAlive_29 rfl (by omega) ?_
        exact rI_of (by simp only [cAl, jbit]; split <;> omega) rfl
theorem sp_everybody (hs : StAt sh F s) : jS G d mX9_everybody [jR (some s)] (sh, I, F) 0 0 (rI (jShl 1 (I s 0) - 1) (sh, I, F)) := by
  obtain ⟨g0, g1, g2, g3, g4, g5, g6, g7, g8, g9, e1, e2, e3, e4, e5, e6, e7, e8, e9⟩ := id hs
  refine jS_go [some (jR (some s))] (by decide +kernel) rfl (by simp [jone]) (Nat.le_of_ble_eq_true rfl) rfl (fun hok => ?_)
  refine j_iconst dX9_everybody_0 ?_
  refine j_aload_n dX9_everybody_1 rfl ?_
  refine r_getI dX9_everybody_2 flX9_57 (by first | assumption | exact hsh _ _ rfl) (fun b_2 => ?_)
  refine r_ishl dX9_everybody_5 (fun b_5 => ?_)
  refine j_iconst dX9_everybody_6 ?_
  refine j_isub dX9_everybody_7 ?_
  refine j_iret dX9_everybody_8 rfl ?_
  exact rI_of rfl rfl
theorem sp_accountsOf (hs : StAt sh F s) {w : Int} (hp : 0 ≤ I s 0 ∧ I s 0 ≤ 8) : jS G d mX9_accountsOf [jR (some s), jI w] (sh, I, F) 0 0 (rI (jfold (fun p a => if jbit w p then a + I (s + 3) p else a) 0 (I s 0).toNat) (sh, I, F)) := by
  obtain ⟨g0, g1, g2, g3, g4, g5, g6, g7, g8, g9, e1, e2, e3, e4, e5, e6, e7, e8, e9⟩ := id hs
  refine jS_go [some (jR (some s)), some (jI w), none, none] (by decide +kernel) rfl (by simp [jone]) (Nat.le_of_ble_eq_true rfl) rfl (fun hok => ?_)
  generalize hf : (fun (p : Int) (a : Int) => if jbit w p then a + I (s + 3) p else a) = f
  have loop : ∀ (n : Nat) (z a : Int), 0 ≤ z → z + n = I s 0 → a = jfold f 0 z.toNat → jW G mX9_accountsOf d (rI (jfold f 0 (I s 0).toNat) (sh, I, F)) 4 [some (jR (some s)), some (jI w), some (jI a), some (jI z)] [] (sh, I, F) 0 0 := by
    intro n
    induction n with
    | zero =>
      intro z a hz hn ha
      refine j_iload_n dX9_accountsOf_4 rfl ?_
      refine j_aload_n dX9_accountsOf_5 rfl ?_
      refine r_getI dX9_accountsOf_6 flX9_57 (by first | assumption | exact hsh _ _ rfl) (fun b_6 => ?_)
      refine j_icmp_ge (tgt := 36) dX9_accountsOf_9 rfl (by first | omega | (split <;> omega)) (by first | omega | (split <;> omega)) (fun c_9 => ?_) (fun c_9 => ?_)
      · refine j_iload_n dX9_accountsOf_36 rfl ?_
        refine j_iret dX9_accountsOf_37 rfl ?_
        exact rI_of (by rw [ha, show z = I s 0 by omega]) rfl
      · exact absurd (by omega) c_9
    | succ n ih =>
      intro z a hz hn ha
      refine j_iload_n dX9_accountsOf_4 rfl ?_
      refine j_aload_n dX9_accountsOf_5 rfl ?_
      refine r_getI dX9_accountsOf_6 flX9_57 (by first | assumption | exact hsh _ _ rfl) (fun b_6 => ?_)
      refine j_icmp_ge (tgt := 36) dX9_accountsOf_9 rfl (by first | omega | (split <;> omega)) (by first | omega | (split <;> omega)) (fun c_9 => ?_) (fun c_9 => ?_)
      · exact absurd c_9 (by omega)
      · refine j_iload_n dX9_accountsOf_12 rfl ?_
        refine j_iload_n dX9_accountsOf_13 rfl ?_
        refine r_ishr dX9_accountsOf_14 (fun b_14 => ?_)
        refine j_iconst dX9_accountsOf_15 ?_
        refine r_iand dX9_accountsOf_16 (fun b_16 => ?_)
        refine j_iconst dX9_accountsOf_17 ?_
        refine j_icmp_ne (tgt := 30) dX9_accountsOf_18 rfl (by first | omega | (split <;> omega)) (by first | omega | (split <;> omega)) (fun c_18 => ?_) (fun c_18 => ?_)
        · refine j_iinc dX9_accountsOf_30 rfl (by decide) ?_
          refine j_goto (tgt := 4) dX9_accountsOf_33 rfl ?_
          exact ih (z + 1) _ (by omega) (by omega) (by rw [jfold_s _ _ hz, ← ha, ← hf]; simp [jbit, c_18])
        · refine j_iload_n dX9_accountsOf_21 rfl ?_
          refine j_aload_n dX9_accountsOf_22 rfl ?_
          refine r_getS dX9_accountsOf_23 flX9_18 (by first | assumption | exact hsh _ _ rfl) (by assumption) ?_
          refine j_iload_n dX9_accountsOf_26 rfl ?_
          refine r_iaload dX9_accountsOf_27 (by first | assumption | exact hsh _ _ rfl) (by first | omega | (split <;> omega)) (by first | omega | (split <;> omega)) (fun b_27 => ?_)
          refine j_iadd dX9_accountsOf_28 ?_
          refine j_istore_n dX9_accountsOf_29 (by decide) ?_
          refine j_iinc dX9_accountsOf_30 rfl (by decide) ?_
          refine j_goto (tgt := 4) dX9_accountsOf_33 rfl ?_
          exact ih (z + 1) _ (by omega) (by omega) (by rw [jfold_s _ _ hz, ← ha, ← hf]; simp [jbit, c_18])
  refine j_iconst dX9_accountsOf_0 ?_
  refine j_istore_n dX9_accountsOf_1 (by decide) ?_
  refine j_iconst dX9_accountsOf_2 ?_
  refine j_istore_n dX9_accountsOf_3 (by decide) ?_
  exact loop (I s 0).toNat 0 0 (by omega) (by omega) rfl
theorem sp_forgedTogether (hs : StAt sh F s) (hp : 0 ≤ I s 0 ∧ I s 0 ≤ 8) : jS G d mX9_forgedTogether [jR (some s)] (sh, I, F) 0 0 (rI (jfold (fun p a => a + I (s + 4) p) 0 (I s 0).toNat) (sh, I, F)) := by
  obtain ⟨g0, g1, g2, g3, g4, g5, g6, g7, g8, g9, e1, e2, e3, e4, e5, e6, e7, e8, e9⟩ := id hs
  refine jS_go [some (jR (some s)), none, none] (by decide +kernel) rfl (by simp [jone]) (Nat.le_of_ble_eq_true rfl) rfl (fun hok => ?_)
  generalize hf : (fun (p : Int) (a : Int) => a + I (s + 4) p) = f
  have loop : ∀ (n : Nat) (z a : Int), 0 ≤ z → z + n = I s 0 → a = jfold f 0 z.toNat → jW G mX9_forgedTogether d (rI (jfold f 0 (I s 0).toNat) (sh, I, F)) 4 [some (jR (some s)), some (jI a), some (jI z)] [] (sh, I, F) 0 0 := by
    intro n
    induction n with
    | zero =>
      intro z a hz hn ha
      refine j_iload_n dX9_forgedTogether_4 rfl ?_
      refine j_aload_n dX9_forgedTogether_5 rfl ?_
      refine r_getI dX9_forgedTogether_6 flX9_57 (by first | assumption | exact hsh _ _ rfl) (fun b_6 => ?_)
      refine j_icmp_ge (tgt := 27) dX9_forgedTogether_9 rfl (by first | omega | (split <;> omega)) (by first | omega | (split <;> omega)) (fun c_9 => ?_) (fun c_9 => ?_)
      · refine j_iload_n dX9_forgedTogether_27 rfl ?_
        refine j_iret dX9_forgedTogether_28 rfl ?_
        exact rI_of (by rw [ha, show z = I s 0 by omega]) rfl
      · exact absurd (by omega) c_9
    | succ n ih =>
      intro z a hz hn ha
      refine j_iload_n dX9_forgedTogether_4 rfl ?_
      refine j_aload_n dX9_forgedTogether_5 rfl ?_
      refine r_getI dX9_forgedTogether_6 flX9_57 (by first | assumption | exact hsh _ _ rfl) (fun b_6 => ?_)
      refine j_icmp_ge (tgt := 27) dX9_forgedTogether_9 rfl (by first | omega | (split <;> omega)) (by first | omega | (split <;> omega)) (fun c_9 => ?_) (fun c_9 => ?_)
      · exact absurd c_9 (by omega)
      · refine j_iload_n dX9_forgedTogether_12 rfl ?_
        refine j_aload_n dX9_forgedTogether_13 rfl ?_
        refine r_getS dX9_forgedTogether_14 flX9_21 (by first | assumption | exact hsh _ _ rfl) (by assumption) ?_
        refine j_iload_n dX9_forgedTogether_17 rfl ?_
        refine r_iaload dX9_forgedTogether_18 (by first | assumption | exact hsh _ _ rfl) (by first | omega | (split <;> omega)) (by first | omega | (split <;> omega)) (fun b_18 => ?_)
        refine j_iadd dX9_forgedTogether_19 ?_
        refine j_istore_n dX9_forgedTogether_20 (by decide) ?_
        refine j_iinc dX9_forgedTogether_21 rfl (by decide) ?_
        refine j_goto (tgt := 4) dX9_forgedTogether_24 rfl ?_
        exact ih (z + 1) _ (by omega) (by omega) (by rw [jfold_s _ _ hz, ← ha, ← hf])
  refine j_iconst dX9_forgedTogether_0 ?_
  refine j_istore_n dX9_forgedTogether_1 (by decide) ?_
  refine j_iconst dX9_forgedTogether_2 ?_
  refine j_istore_n dX9_forgedTogether_3 (by decide) ?_
  exact loop (I s 0).toNat 0 0 (by omega) (by omega) rfl
end
