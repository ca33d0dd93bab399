/-! THE ABSTRACT STATE: the model's row of ints; ITS MODEL -/
def shB : List (Nat × Nat) := [(8, 0), (11, 400)] ++ [(6, 0), (11, 8), (11, 56), (11, 8), (11, 8), (11, 8), (11, 8), (11, 64), (4, 0), (11, 240)] ++ [(6, 0), (11, 8), (11, 56), (11, 8), (11, 8), (11, 8), (11, 8), (11, 64), (4, 0), (11, 240)] ++ [(6, 0), (11, 8), (11, 56), (11, 8), (11, 8), (11, 8), (11, 8), (11, 64), (4, 0), (11, 240)] ++ [(5, 0), (12, 12)]
  ++ (List.replicate 12 [(6, 0), (11, 8), (11, 56), (11, 8), (11, 8), (11, 8), (11, 8), (11, 64), (4, 0), (11, 240)]).flatten
  ++ [(7, 0), (11, 400), (3, 0), (11, 400), (11, 12), (11, 13), (0, 0), (11, 8), (11, 8), (11, 8), (11, 8), (11, 64), (1, 0), (11, 8), (11, 256), (11, 256)]
  ++ [(9, 0), (11, 2118), (11, 1269), (11, 1269), (11, 420), (11, 5040), (10, 400), (11, 5), (11, 400), (11, 8), (11, 8), (11, 8), (11, 8), (11, 256), (13, 1)]
theorem shB_len : shB.length = 185 := by decide +kernel
def ShOK (sh : List (Nat × Nat)) : Prop := ∀ (i : Nat) (v : Nat × Nat), shB[i]? = some v → sh[i]? = some v
/-- the references that never change -/
def fxB : List (Nat × Int × Nat) := [(0, 0, 1), (0, 3, 2), (0, 4, 12), (0, 5, 22), (0, 7, 32), (0, 8, 154), (0, 9, 156), (0, 10, 160), (0, 11, 166), (32, 0, 33), (154, 0, 155), (156, 0, 157), (156, 1, 158), (156, 2, 159), (160, 0, 161), (160, 1, 162), (160, 2, 163), (160, 3, 164), (160, 4, 165), (166, 0, 167), (166, 1, 168), (166, 2, 169),
  (170, 1, 171), (170, 2, 172), (170, 3, 173), (170, 4, 174), (170, 5, 175), (170, 8, 176), (170, 15, 177), (170, 17, 178), (170, 20, 179), (170, 21, 180), (170, 22, 181), (170, 23, 182), (170, 24, 183)]
def fxL (a : Nat) (k : Int) : Option Nat := (fxB.find? (fun q => q.1 == a && q.2.1 == k)).map (·.2.2)
def FxOK (F : Nat → Int → Option Nat) : Prop := ∀ (a : Nat) (k : Int) (b : Nat), fxL a k = some b → F a k = some b
theorem fx_0_0 {F : Nat → Int → Option Nat} (h : FxOK F) : F 0 0 = some 1 := h _ _ _ rfl
theorem fx_0_3 {F : Nat → Int → Option Nat} (h : FxOK F) : F 0 3 = some 2 := h _ _ _ rfl
theorem fx_0_4 {F : Nat → Int → Option Nat} (h : FxOK F) : F 0 4 = some 12 := h _ _ _ rfl
theorem fx_0_5 {F : Nat → Int → Option Nat} (h : FxOK F) : F 0 5 = some 22 := h _ _ _ rfl
theorem fx_0_7 {F : Nat → Int → Option Nat} (h : FxOK F) : F 0 7 = some 32 := h _ _ _ rfl
theorem fx_0_8 {F : Nat → Int → Option Nat} (h : FxOK F) : F 0 8 = some 154 := h _ _ _ rfl
theorem fx_0_9 {F : Nat → Int → Option Nat} (h : FxOK F) : F 0 9 = some 156 := h _ _ _ rfl
theorem fx_0_10 {F : Nat → Int → Option Nat} (h : FxOK F) : F 0 10 = some 160 := h _ _ _ rfl
theorem fx_0_11 {F : Nat → Int → Option Nat} (h : FxOK F) : F 0 11 = some 166 := h _ _ _ rfl
theorem fx_32_0 {F : Nat → Int → Option Nat} (h : FxOK F) : F 32 0 = some 33 := h _ _ _ rfl
theorem fx_154_0 {F : Nat → Int → Option Nat} (h : FxOK F) : F 154 0 = some 155 := h _ _ _ rfl
theorem fx_156_0 {F : Nat → Int → Option Nat} (h : FxOK F) : F 156 0 = some 157 := h _ _ _ rfl
theorem fx_156_1 {F : Nat → Int → Option Nat} (h : FxOK F) : F 156 1 = some 158 := h _ _ _ rfl
theorem fx_156_2 {F : Nat → Int → Option Nat} (h : FxOK F) : F 156 2 = some 159 := h _ _ _ rfl
theorem fx_160_0 {F : Nat → Int → Option Nat} (h : FxOK F) : F 160 0 = some 161 := h _ _ _ rfl
theorem fx_160_1 {F : Nat → Int → Option Nat} (h : FxOK F) : F 160 1 = some 162 := h _ _ _ rfl
theorem fx_160_2 {F : Nat → Int → Option Nat} (h : FxOK F) : F 160 2 = some 163 := h _ _ _ rfl
theorem fx_160_3 {F : Nat → Int → Option Nat} (h : FxOK F) : F 160 3 = some 164 := h _ _ _ rfl
theorem fx_160_4 {F : Nat → Int → Option Nat} (h : FxOK F) : F 160 4 = some 165 := h _ _ _ rfl
theorem fx_166_0 {F : Nat → Int → Option Nat} (h : FxOK F) : F 166 0 = some 167 := h _ _ _ rfl
theorem fx_166_1 {F : Nat → Int → Option Nat} (h : FxOK F) : F 166 1 = some 168 := h _ _ _ rfl
theorem fx_166_2 {F : Nat → Int → Option Nat} (h : FxOK F) : F 166 2 = some 169 := h _ _ _ rfl
theorem fx_170_1 {F : Nat → Int → Option Nat} (h : FxOK F) : F 170 1 = some 171 := h _ _ _ rfl
theorem fx_170_2 {F : Nat → Int → Option Nat} (h : FxOK F) : F 170 2 = some 172 := h _ _ _ rfl
theorem fx_170_3 {F : Nat → Int → Option Nat} (h : FxOK F) : F 170 3 = some 173 := h _ _ _ rfl
theorem fx_170_4 {F : Nat → Int → Option Nat} (h : FxOK F) : F 170 4 = some 174 := h _ _ _ rfl
theorem fx_170_5 {F : Nat → Int → Option Nat} (h : FxOK F) : F 170 5 = some 175 := h _ _ _ rfl
theorem fx_170_8 {F : Nat → Int → Option Nat} (h : FxOK F) : F 170 8 = some 176 := h _ _ _ rfl
theorem fx_170_15 {F : Nat → Int → Option Nat} (h : FxOK F) : F 170 15 = some 177 := h _ _ _ rfl
theorem fx_170_17 {F : Nat → Int → Option Nat} (h : FxOK F) : F 170 17 = some 178 := h _ _ _ rfl
theorem fx_170_20 {F : Nat → Int → Option Nat} (h : FxOK F) : F 170 20 = some 179 := h _ _ _ rfl
theorem fx_170_21 {F : Nat → Int → Option Nat} (h : FxOK F) : F 170 21 = some 180 := h _ _ _ rfl
theorem fx_170_22 {F : Nat → Int → Option Nat} (h : FxOK F) : F 170 22 = some 181 := h _ _ _ rfl
theorem fx_170_23 {F : Nat → Int → Option Nat} (h : FxOK F) : F 170 23 = some 182 := h _ _ _ rfl
theorem fx_170_24 {F : Nat → Int → Option Nat} (h : FxOK F) : F 170 24 = some 183 := h _ _ _ rfl
abbrev aPe (w : Int → Int) : Int := w 0
abbrev aOf (w : Int → Int) (p k : Int) : Int := w (12 + 13 * p + k)
abbrev aOw (w : Int → Int) (p q : Int) : Int := w (116 + 8 * p + q)
section
variable {G : jzG} {d : Nat} {sh : List (Nat × Nat)} {I : Nat → Int → Int} {F : Nat → Int → Option Nat}
theorem sm_in {v lo hi : Int} (h1 : jin v) (h2 : jin lo) (h3 : jin hi) : jS G d mX12_in [jI v, jI lo, jI hi] (sh, I, F) 0 0 (rI (if lo ≤ v ∧ v ≤ hi then 1 else 0) (sh, I, F)) := by
  refine jS_go [some (jI v), some (jI lo), some (jI hi)] (by decide +kernel) rfl (by simp [jone]) (Nat.le_of_ble_eq_true rfl) rfl (fun hok => ?_)
  refine j_iload_n dX12_in_0 rfl ?_
  refine j_iload_n dX12_in_1 rfl ?_
  refine j_icmp_lt (tgt := 14) dX12_in_2 rfl (by first | omega | (split <;> omega)) (by first | omega | (split <;> omega)) (fun c_2 => ?_) (fun c_2 => ?_)
  · refine j_iconst dX12_in_14 ?_
    refine j_zret dX12_in_15 rfl (by omega) ?_
    exact rI_of (by split <;> omega) rfl
  · refine j_iload_n dX12_in_5 rfl ?_
    refine j_iload_n dX12_in_6 rfl ?_
    refine j_icmp_gt (tgt := 14) dX12_in_7 rfl (by first | omega | (split <;> omega)) (by first | omega | (split <;> omega)) (fun c_7 => ?_) (fun c_7 => ?_)
    · refine j_iconst dX12_in_14 ?_
      refine j_zret dX12_in_15 rfl (by omega) ?_
      exact rI_of (by split <;> omega) rfl
    · refine j_iconst dX12_in_10 ?_
      refine j_goto (tgt := 15) dX12_in_11 rfl ?_
      refine j_zret dX12_in_15 rfl (by omega) ?_
      exact rI_of (by split <;> omega) rfl
theorem sm_has {v k : Int} : jS G d mX12_has [jI v, jI k] (sh, I, F) 0 0 (rI (if jbit v k then 1 else 0) (sh, I, F)) := by
  refine jS_go [some (jI v), some (jI k)] (by decide +kernel) rfl (by simp [jone]) (Nat.le_of_ble_eq_true rfl) rfl (fun hok => ?_)
  refine j_iload_n dX12_has_0 rfl ?_
  refine j_iload_n dX12_has_1 rfl ?_
  refine r_ishr dX12_has_2 (fun b_2 => ?_)
  refine j_iconst dX12_has_3 ?_
  refine r_iand dX12_has_4 (fun b_4 => ?_)
  refine j_iconst dX12_has_5 ?_
  refine j_icmp_ne (tgt := 13) dX12_has_6 rfl (by first | omega | (split <;> omega)) (by first | omega | (split <;> omega)) (fun c_6 => ?_) (fun c_6 => ?_)
  · refine j_iconst dX12_has_13 ?_
    refine j_zret dX12_has_14 rfl (by omega) ?_
    exact rI_of (by simp only [jbit]; split <;> omega) rfl
  · refine j_iconst dX12_has_9 ?_
    refine j_goto (tgt := 14) dX12_has_10 rfl ?_
    refine j_zret dX12_has_14 rfl (by omega) ?_
    exact rI_of (by simp only [jbit]; split <;> omega) rfl
theorem sm_at {p k : Int} : jS G d mX12_at [jI p, jI k] (sh, I, F) 0 0 (rI (12 + 13 * p + k) (sh, I, F)) := by
  refine jS_go [some (jI p), some (jI k)] (by decide +kernel) rfl (by simp [jone]) (Nat.le_of_ble_eq_true rfl) rfl (fun hok => ?_)
  refine j_bipush dX12_at_0 (by decide) ?_
  refine j_bipush dX12_at_2 (by decide) ?_
  refine j_iload_n dX12_at_4 rfl ?_
  refine j_imul dX12_at_5 ?_
  refine j_iadd dX12_at_6 ?_
  refine j_iload_n dX12_at_7 rfl ?_
  refine j_iadd dX12_at_8 ?_
  refine j_iret dX12_at_9 rfl ?_
  exact rI_of rfl rfl
theorem sm_owedAt {p k : Int} : jS G d mX12_owedAt [jI p, jI k] (sh, I, F) 0 0 (rI (116 + 8 * p + k) (sh, I, F)) := by
  refine jS_go [some (jI p), some (jI k)] (by decide +kernel) rfl (by simp [jone]) (Nat.le_of_ble_eq_true rfl) rfl (fun hok => ?_)
  refine j_bipush dX12_owedAt_0 (by decide) ?_
  refine j_bipush dX12_owedAt_2 (by decide) ?_
  refine j_iload_n dX12_owedAt_4 rfl ?_
  refine j_imul dX12_owedAt_5 ?_
  refine j_iadd dX12_owedAt_6 ?_
  refine j_iload_n dX12_owedAt_7 rfl ?_
  refine j_iadd dX12_owedAt_8 ?_
  refine j_iret dX12_owedAt_9 rfl ?_
  exact rI_of rfl rfl
theorem sm_people (hsh : ShOK sh) (hfx : FxOK F) : jS G d mX12_people [jR (some 170)] (sh, I, F) 0 0 (rI (aPe (I 171)) (sh, I, F)) := by
  refine jS_go [some (jR (some 170))] (by decide +kernel) rfl (by simp [jone]) (Nat.le_of_ble_eq_true rfl) rfl (fun hok => ?_)
  refine j_aload_n dX12_people_0 rfl ?_
  refine r_getS dX12_people_1 flX12_13 (by first | assumption | exact hsh _ _ rfl) (fx_170_1 hfx) ?_
  refine j_iconst dX12_people_4 ?_
  refine r_iaload dX12_people_5 (by first | assumption | exact hsh _ _ rfl) (by first | omega | (split <;> omega)) (by first | omega | (split <;> omega)) (fun b_5 => ?_)
  refine j_iret dX12_people_6 rfl ?_
  exact rI_of rfl rfl
theorem sm_of (hsh : ShOK sh) (hfx : FxOK F) {p k : Int} (h1 : 0 ≤ 12 + 13 * p + k ∧ 12 + 13 * p + k < 2118) : jS G (d + 1) mX12_of [jR (some 170), jI p, jI k] (sh, I, F) 0 0 (rI (aOf (I 171) p k) (sh, I, F)) := by
  refine jS_go [some (jR (some 170)), some (jI p), some (jI k)] (by decide +kernel) rfl (by simp [jone]) (Nat.le_of_ble_eq_true rfl) rfl (fun hok => ?_)
  refine j_aload_n dX12_of_0 rfl ?_
  refine r_getS dX12_of_1 flX12_13 (by first | assumption | exact hsh _ _ rfl) (fx_170_1 hfx) ?_
  refine j_iload_n dX12_of_4 rfl ?_
  refine j_iload_n dX12_of_5 rfl ?_
  refine r_cs2I dX12_of_6 csX12_64 (Nat.le_of_ble_eq_true rfl) (Nat.le_of_eq (Nat.zero_add _)) (Nat.le_of_eq (Nat.zero_add _)) (sm_at) ?_
  refine r_iaload dX12_of_9 (by first | assumption | exact hsh _ _ rfl) (by first | omega | (split <;> omega)) (by first | omega | (split <;> omega)) (fun b_9 => ?_)
  refine j_iret dX12_of_10 rfl ?_
  exact rI_of rfl rfl
theorem sm_isAlive (hsh : ShOK sh) (hfx : FxOK F) {p : Int} (h1 : 0 ≤ p ∧ p < 100) : jS G (d + 2) mX12_isAlive [jR (some 170), jI p] (sh, I, F) 0 0 (rI (if aOf (I 171) p 3 = 0 then 1 else 0) (sh, I, F)) := by
  refine jS_go [some (jR (some 170)), some (jI p)] (by decide +kernel) rfl (by simp [jone]) (Nat.le_of_ble_eq_true rfl) rfl (fun hok => ?_)
  refine j_aload_n dX12_isAlive_0 rfl ?_
  refine j_iload_n dX12_isAlive_1 rfl ?_
  refine j_iconst dX12_isAlive_2 ?_
  refine r_cv2I dX12_isAlive_3 cvX12_68 (by decide) (by first | assumption | exact hsh _ _ rfl) (Nat.le_of_ble_eq_true rfl) (Nat.le_of_eq (Nat.zero_add _)) (Nat.le_of_eq (Nat.zero_add _)) (sm_of hsh hfx (by omega)) ?_
  have b_3 := hok.2.1 171 (12 + 13 * p + 3)
  dsimp only at b_3
  refine j_if_ne (tgt := 13) dX12_isAlive_6 rfl (by first | omega | (split <;> omega)) (fun c_6 => ?_) (fun c_6 => ?_)
  · refine j_iconst dX12_isAlive_13 ?_
    refine j_zret dX12_isAlive_14 rfl (by omega) ?_
    exact rI_of (by split <;> omega) rfl
  · refine j_iconst dX12_isAlive_9 ?_
    refine j_goto (tgt := 14) dX12_isAlive_10 rfl ?_
    refine j_zret dX12_isAlive_14 rfl (by omega) ?_
    exact rI_of (by split <;> omega) rfl
def mAcc (w : Int → Int) (set : Int) : Int := jfold (fun p a => a + (if jbit set p then aOf w p 1 else 0)) 0 (aPe w).toNat
theorem sm_accountsOf (hsh : ShOK sh) (hfx : FxOK F) {set : Int} (h1 : 0 ≤ aPe (I 171) ∧ aPe (I 171) ≤ 8) : jS G (d + 3) mX12_accountsOf [jR (some 170), jI set] (sh, I, F) 0 0 (rI (mAcc (I 171) set) (sh, I, F)) := by
  refine jS_go [some (jR (some 170)), some (jI set), none, none] (by decide +kernel) rfl (by simp [jone]) (Nat.le_of_ble_eq_true rfl) rfl (fun hok => ?_)
  refine j_iconst dX12_accountsOf_0 ?_
  refine j_istore_n dX12_accountsOf_1 (by decide) ?_
  refine j_iconst dX12_accountsOf_2 ?_
  refine j_istore_n dX12_accountsOf_3 (by decide) ?_
  skip
  refine jW_loop 4 (fun _ _ => True) (fun p a => a + (if jbit set p then aOf (I 171) p 1 else 0)) 0 (aPe (I 171)) (fun z a => [some (jR (some 170)), some (jI set), some (jI a), some (jI z)]) (fun _ _ => (sh, I, F)) h1.1 trivial (fun _ _ _ _ _ => trivial) (fun a ha _ => ?_) (fun z a hz0 hz1 _ ih => ?_)
  · refine j_iload_n dX12_accountsOf_4 rfl ?_
    refine j_aload_n dX12_accountsOf_5 rfl ?_
    refine r_cv0I dX12_accountsOf_6 cvX12_74 (by decide) (by first | assumption | exact hsh _ _ rfl) (Nat.le_of_ble_eq_true rfl) (Nat.le_of_eq (Nat.zero_add _)) (Nat.le_of_eq (Nat.zero_add _)) (sm_people hsh hfx) ?_
    refine j_icmp_ge (tgt := 39) dX12_accountsOf_9 rfl (by first | omega | (split <;> omega)) (by first | omega | (split <;> omega)) (fun c_9 => ?_) (fun c_9 => ?_)
    · refine j_iload_n dX12_accountsOf_39 rfl ?_
      refine j_iret dX12_accountsOf_40 rfl ?_
      exact rI_of ha rfl
    · exact absurd (by omega) c_9
  · refine j_iload_n dX12_accountsOf_4 rfl ?_
    refine j_aload_n dX12_accountsOf_5 rfl ?_
    refine r_cv0I dX12_accountsOf_6 cvX12_74 (by decide) (by first | assumption | exact hsh _ _ rfl) (Nat.le_of_ble_eq_true rfl) (Nat.le_of_eq (Nat.zero_add _)) (Nat.le_of_eq (Nat.zero_add _)) (sm_people hsh hfx) ?_
    refine j_icmp_ge (tgt := 39) dX12_accountsOf_9 rfl (by first | omega | (split <;> omega)) (by first | omega | (split <;> omega)) (fun c_9 => ?_) (fun c_9 => ?_)
    · exact absurd c_9 (by omega)
    · refine j_iload_n dX12_accountsOf_12 rfl ?_
      refine j_iload_n dX12_accountsOf_13 rfl ?_
      refine j_iload_n dX12_accountsOf_14 rfl ?_
      refine r_cs2I dX12_accountsOf_15 csX12_332 (Nat.le_of_ble_eq_true rfl) (Nat.le_of_eq (Nat.zero_add _)) (Nat.le_of_eq (Nat.zero_add _)) (sm_has) ?_
      refine j_if_eq (tgt := 30) dX12_accountsOf_18 rfl (by first | omega | (split <;> omega)) (fun c_18 => ?_) (fun c_18 => ?_)
      · refine j_iconst dX12_accountsOf_30 ?_
        refine j_iadd dX12_accountsOf_31 ?_
        refine j_istore_n dX12_accountsOf_32 (by decide) ?_
        refine j_iinc dX12_accountsOf_33 rfl (by decide) ?_
        refine j_goto (tgt := 4) dX12_accountsOf_36 rfl ?_
        rw [ite0] at c_18
        first | (rw [if_pos (Classical.not_not.mp c_18)] at ih; exact ih) | (rw [if_neg c_18] at ih; exact ih)
      · refine j_aload_n dX12_accountsOf_21 rfl ?_
        refine j_iload_n dX12_accountsOf_22 rfl ?_
        refine j_iconst dX12_accountsOf_23 ?_
        refine r_cv2I dX12_accountsOf_24 cvX12_68 (by decide) (by first | assumption | exact hsh _ _ rfl) (Nat.le_of_ble_eq_true rfl) (Nat.le_of_eq (Nat.zero_add _)) (Nat.le_of_eq (Nat.zero_add _)) (sm_of hsh hfx (by omega)) ?_
        refine j_goto (tgt := 31) dX12_accountsOf_27 rfl ?_
        refine j_iadd dX12_accountsOf_31 ?_
        refine j_istore_n dX12_accountsOf_32 (by decide) ?_
        refine j_iinc dX12_accountsOf_33 rfl (by decide) ?_
        refine j_goto (tgt := 4) dX12_accountsOf_36 rfl ?_
        rw [ite0] at c_18
        first | (rw [if_pos (Classical.not_not.mp c_18)] at ih; exact ih) | (rw [if_neg c_18] at ih; exact ih)
end
