/-! GUARDS OF THE CLASS -/
abbrev xIob : String := "java/lang/IndexOutOfBoundsException"
abbrev xIae : String := "java/lang/IllegalArgumentException"
abbrev xIse : String := "java/lang/IllegalStateException"
abbrev xNse : String := "java/util/NoSuchElementException"
abbrev xUoe : String := "java/lang/UnsupportedOperationException"
section
variable {G : jzG} {d : Nat} {sh : List (Nat × Nat)} {I : Nat → Int → Int} {F : Nat → Int → Option Nat} {w : Int → Int}
theorem cg_person0 (hsh : ShOK sh) (hfx : FxOK F) (hR : Rp I 2 w) {p : Int} (h1 : jin p) (h2 : gP w p) : jS G d mX11_mustBePerson [jR (some 0), jI p] (sh, I, F) 0 0 (rV (sh, I, F)) := by
  obtain ⟨r0, r1, rP, rO, rA, r9, r10, r11, r12, r13, r14, r15, r16, r17⟩ := id hR
  refine jS_go [some (jR (some 0)), some (jI p)] (by decide +kernel) rfl (by simp [jone]) (Nat.le_of_ble_eq_true rfl) rfl (fun hok => ?_)
  refine j_iload_n dX11_mustBePerson_0 rfl ?_
  refine j_if_lt (tgt := 15) dX11_mustBePerson_1 rfl (by first | omega | (split <;> omega)) (fun c_1 => by exact absurd c_1 (by omega)) (fun c_1 => ?_)
  refine j_iload_n dX11_mustBePerson_4 rfl ?_
  refine j_aload_n dX11_mustBePerson_5 rfl ?_
  refine r_getS dX11_mustBePerson_6 flX11_20 (by first | assumption | exact hsh _ _ rfl) (fx_0_3 hfx) ?_
  refine r_getIE dX11_mustBePerson_9 flX11_278 (by first | assumption | exact hsh _ _ rfl) r0 (fun b_9 => ?_)
  refine j_icmp_lt (tgt := 26) dX11_mustBePerson_12 rfl (by first | omega | (split <;> omega)) (by first | omega | (split <;> omega)) (fun c_12 => ?_) (fun c_12 => by exact absurd (by omega) c_12)
  refine j_vret dX11_mustBePerson_26 rfl ?_
  exact rV_of rfl
theorem cg_person1 (hsh : ShOK sh) (hfx : FxOK F) (hR : Rp I 2 w) {p : Int} (h1 : jin p) (h2 : ¬ gP w p) : jS G d mX11_mustBePerson [jR (some 0), jI p] (sh, I, F) 1 6 (rX xIob (sh, I, F)) := by
  obtain ⟨r0, r1, rP, rO, rA, r9, r10, r11, r12, r13, r14, r15, r16, r17⟩ := id hR
  refine jS_go [some (jR (some 0)), some (jI p)] (by decide +kernel) rfl (by simp [jone]) (Nat.le_of_ble_eq_true rfl) rfl (fun hok => ?_)
  refine j_iload_n dX11_mustBePerson_0 rfl ?_
  refine j_if_lt (tgt := 15) dX11_mustBePerson_1 rfl (by first | omega | (split <;> omega)) (fun c_1 => ?_) (fun c_1 => ?_)
  · exact j_throwW dX11_mustBePerson_15 dX11_mustBePerson_18 dX11_mustBePerson_19 dX11_mustBePerson_22 dX11_mustBePerson_25 rfl th_person (⟨rfl, rfl⟩)
  · refine j_iload_n dX11_mustBePerson_4 rfl ?_
    refine j_aload_n dX11_mustBePerson_5 rfl ?_
    refine r_getS dX11_mustBePerson_6 flX11_20 (by first | assumption | exact hsh _ _ rfl) (fx_0_3 hfx) ?_
    refine r_getIE dX11_mustBePerson_9 flX11_278 (by first | assumption | exact hsh _ _ rfl) r0 (fun b_9 => ?_)
    refine j_icmp_lt (tgt := 26) dX11_mustBePerson_12 rfl (by first | omega | (split <;> omega)) (by first | omega | (split <;> omega)) (fun c_12 => by exact absurd ⟨by omega, by omega⟩ h2) (fun c_12 => ?_)
    exact j_throwW dX11_mustBePerson_15 dX11_mustBePerson_18 dX11_mustBePerson_19 dX11_mustBePerson_22 dX11_mustBePerson_25 rfl th_person (⟨rfl, rfl⟩)
theorem cg_week0 (hsh : ShOK sh) {k : Int} (h1 : jin k) (h2 : 0 ≤ k ∧ k ≤ 6) : jS G d mX11_mustBeWeekday [jR (some 0), jI k] (sh, I, F) 0 0 (rV (sh, I, F)) := by
  refine jS_go [some (jR (some 0)), some (jI k)] (by decide +kernel) rfl (by simp [jone]) (Nat.le_of_ble_eq_true rfl) rfl (fun hok => ?_)
  refine j_iload_n dX11_mustBeWeekday_0 rfl ?_
  refine j_if_lt (tgt := 10) dX11_mustBeWeekday_1 rfl (by first | omega | (split <;> omega)) (fun c_1 => ?_) (fun c_1 => ?_)
  · exact absurd h2 (by omega)
  · refine j_iload_n dX11_mustBeWeekday_4 rfl ?_
    refine j_bipush dX11_mustBeWeekday_5 (by decide) ?_
    refine j_icmp_lt (tgt := 21) dX11_mustBeWeekday_7 rfl (by first | omega | (split <;> omega)) (by first | omega | (split <;> omega)) (fun c_7 => ?_) (fun c_7 => ?_)
    · refine j_vret dX11_mustBeWeekday_21 rfl ?_
      exact rV_of rfl
    · exact absurd h2 (by omega)
theorem cg_week1 (hsh : ShOK sh) {k : Int} (h1 : jin k) (h2 : ¬ (0 ≤ k ∧ k ≤ 6)) : jS G d mX11_mustBeWeekday [jR (some 0), jI k] (sh, I, F) 1 6 (rX xIob (sh, I, F)) := by
  refine jS_go [some (jR (some 0)), some (jI k)] (by decide +kernel) rfl (by simp [jone]) (Nat.le_of_ble_eq_true rfl) rfl (fun hok => ?_)
  refine j_iload_n dX11_mustBeWeekday_0 rfl ?_
  refine j_if_lt (tgt := 10) dX11_mustBeWeekday_1 rfl (by first | omega | (split <;> omega)) (fun c_1 => ?_) (fun c_1 => ?_)
  · exact j_throwW dX11_mustBeWeekday_10 dX11_mustBeWeekday_13 dX11_mustBeWeekday_14 dX11_mustBeWeekday_17 dX11_mustBeWeekday_20 rfl th_week (⟨rfl, rfl⟩)
  · refine j_iload_n dX11_mustBeWeekday_4 rfl ?_
    refine j_bipush dX11_mustBeWeekday_5 (by decide) ?_
    refine j_icmp_lt (tgt := 21) dX11_mustBeWeekday_7 rfl (by first | omega | (split <;> omega)) (by first | omega | (split <;> omega)) (fun c_7 => ?_) (fun c_7 => ?_)
    · exact absurd (by omega) h2
    · exact j_throwW dX11_mustBeWeekday_10 dX11_mustBeWeekday_13 dX11_mustBeWeekday_14 dX11_mustBeWeekday_17 dX11_mustBeWeekday_20 rfl th_week (⟨rfl, rfl⟩)
theorem cg_lie0 (hsh : ShOK sh) {n a b : Int} (h1 : jin n) (h2 : jin a) (h3 : jin b) (h4 : a ≤ n ∧ n ≤ b) : jS G d mX11_mustLie [jR (some 0), jI n, jI a, jI b] (sh, I, F) 0 0 (rV (sh, I, F)) := by
  refine jS_go [some (jR (some 0)), some (jI n), some (jI a), some (jI b)] (by decide +kernel) rfl (by simp [jone]) (Nat.le_of_ble_eq_true rfl) rfl (fun hok => ?_)
  refine j_iload_n dX11_mustLie_0 rfl ?_
  refine j_iload_n dX11_mustLie_1 rfl ?_
  refine j_icmp_lt (tgt := 10) dX11_mustLie_2 rfl (by first | omega | (split <;> omega)) (by first | omega | (split <;> omega)) (fun c_2 => ?_) (fun c_2 => ?_)
  · exact absurd h4 (by omega)
  · refine j_iload_n dX11_mustLie_5 rfl ?_
    refine j_iload_n dX11_mustLie_6 rfl ?_
    refine j_icmp_le (tgt := 21) dX11_mustLie_7 rfl (by first | omega | (split <;> omega)) (by first | omega | (split <;> omega)) (fun c_7 => ?_) (fun c_7 => ?_)
    · refine j_vret dX11_mustLie_21 rfl ?_
      exact rV_of rfl
    · exact absurd h4 (by omega)
theorem cg_lie1 (hsh : ShOK sh) {n a b : Int} (h1 : jin n) (h2 : jin a) (h3 : jin b) (h4 : ¬ (a ≤ n ∧ n ≤ b)) : jS G d mX11_mustLie [jR (some 0), jI n, jI a, jI b] (sh, I, F) 1 6 (rX xIae (sh, I, F)) := by
  refine jS_go [some (jR (some 0)), some (jI n), some (jI a), some (jI b)] (by decide +kernel) rfl (by simp [jone]) (Nat.le_of_ble_eq_true rfl) rfl (fun hok => ?_)
  refine j_iload_n dX11_mustLie_0 rfl ?_
  refine j_iload_n dX11_mustLie_1 rfl ?_
  refine j_icmp_lt (tgt := 10) dX11_mustLie_2 rfl (by first | omega | (split <;> omega)) (by first | omega | (split <;> omega)) (fun c_2 => ?_) (fun c_2 => ?_)
  · exact j_throwW dX11_mustLie_10 dX11_mustLie_13 dX11_mustLie_14 dX11_mustLie_17 dX11_mustLie_20 rfl th_lie (⟨rfl, rfl⟩)
  · refine j_iload_n dX11_mustLie_5 rfl ?_
    refine j_iload_n dX11_mustLie_6 rfl ?_
    refine j_icmp_le (tgt := 21) dX11_mustLie_7 rfl (by first | omega | (split <;> omega)) (by first | omega | (split <;> omega)) (fun c_7 => ?_) (fun c_7 => ?_)
    · exact absurd (by omega) h4
    · exact j_throwW dX11_mustLie_10 dX11_mustLie_13 dX11_mustLie_14 dX11_mustLie_17 dX11_mustLie_20 rfl th_lie (⟨rfl, rfl⟩)
theorem sc_al1 {s : Nat} (hs : StAt sh F s) (hR : Rp I s w) {p : Int} (hp : jin p) (h0 : gP w p) (h : aOf w p 3 = 0) : jS G d mX9_isAlive [jR (some s), jI p] (sh, I, F) 0 0 (rI 1 (sh, I, F)) := by
  have := sc_isAlive (G := G) (d := d) hs hR hp
  rw [if_pos ⟨h0.1, by omega, h⟩] at this
  exact this
theorem sc_al0 {s : Nat} (hs : StAt sh F s) (hR : Rp I s w) {p : Int} (hp : jin p) (h0 : gP w p) (h : ¬ aOf w p 3 = 0) : jS G d mX9_isAlive [jR (some s), jI p] (sh, I, F) 0 0 (rI 0 (sh, I, F)) := by
  have := sc_isAlive (G := G) (d := d) hs hR hp
  rw [if_neg (fun q => h q.2.2)] at this
  exact this
theorem cg_live1 (hsh : ShOK sh) (hfx : FxOK F) (hs : StAt sh F 2) (hR : Rp I 2 w) {p : Int} (h1 : jin p) (h2 : gP w p) (h3 : aOf w p 3 = 0) : jS G (d + 1) mX11_mustLive [jR (some 0), jI p] (sh, I, F) 0 0 (rV (sh, I, F)) := by
  refine jS_go [some (jR (some 0)), some (jI p)] (by decide +kernel) rfl (by simp [jone]) (Nat.le_of_ble_eq_true rfl) rfl (fun hok => ?_)
  refine j_aload_n dX11_mustLive_0 rfl ?_
  refine r_getS dX11_mustLive_1 flX11_20 (by first | assumption | exact hsh _ _ rfl) (fx_0_3 hfx) ?_
  refine j_iload_n dX11_mustLive_4 rfl ?_
  refine r_cv1I dX11_mustLive_5 cvX11_131 (by decide) (by first | assumption | exact hsh _ _ rfl) (Nat.le_of_ble_eq_true rfl) (Nat.le_of_eq (Nat.zero_add _)) (Nat.le_of_eq (Nat.zero_add _)) (sc_al1 hs hR (by omega) h2 h3) ?_
  refine j_if_ne (tgt := 22) dX11_mustLive_8 rfl (by first | omega | (split <;> omega)) (fun c_8 => ?_) (fun c_8 => by exact absurd c_8 (by decide))
  refine j_vret dX11_mustLive_22 rfl ?_
  exact rV_of rfl
theorem cg_live0 (hsh : ShOK sh) (hfx : FxOK F) (hs : StAt sh F 2) (hR : Rp I 2 w) {p : Int} (h1 : jin p) (h2 : gP w p) (h3 : ¬ aOf w p 3 = 0) : jS G (d + 1) mX11_mustLive [jR (some 0), jI p] (sh, I, F) 1 6 (rX xIse (sh, I, F)) := by
  refine jS_go [some (jR (some 0)), some (jI p)] (by decide +kernel) rfl (by simp [jone]) (Nat.le_of_ble_eq_true rfl) rfl (fun hok => ?_)
  refine j_aload_n dX11_mustLive_0 rfl ?_
  refine r_getS dX11_mustLive_1 flX11_20 (by first | assumption | exact hsh _ _ rfl) (fx_0_3 hfx) ?_
  refine j_iload_n dX11_mustLive_4 rfl ?_
  refine r_cv1I dX11_mustLive_5 cvX11_131 (by decide) (by first | assumption | exact hsh _ _ rfl) (Nat.le_of_ble_eq_true rfl) (Nat.le_of_eq (Nat.zero_add _)) (Nat.le_of_eq (Nat.zero_add _)) (sc_al0 hs hR (by omega) h2 h3) ?_
  refine j_if_ne (tgt := 22) dX11_mustLive_8 rfl (by first | omega | (split <;> omega)) (fun c_8 => by exact absurd c_8 (by decide)) (fun c_8 => ?_)
  exact j_throwW dX11_mustLive_11 dX11_mustLive_14 dX11_mustLive_15 dX11_mustLive_18 dX11_mustLive_21 rfl th_live (⟨rfl, rfl⟩)
theorem cg_stand0 (hsh : ShOK sh) (hfx : FxOK F) (hs : StAt sh F 2) (hR : Rp I 2 w) (h3 : ¬ w 8 = 1) (h4 : w 8 = 0 ∨ w 8 = 1) : jS G d mX11_mustStand [jR (some 0)] (sh, I, F) 0 0 (rV (sh, I, F)) := by
  obtain ⟨r0, r1, rP, rO, rA, r9, r10, r11, r12, r13, r14, r15, r16, r17⟩ := id hR
  refine jS_go [some (jR (some 0))] (by decide +kernel) rfl (by simp [jone]) (Nat.le_of_ble_eq_true rfl) rfl (fun hok => ?_)
  refine j_aload_n dX11_mustStand_0 rfl ?_
  refine r_getS dX11_mustStand_1 flX11_20 (by first | assumption | exact hsh _ _ rfl) (fx_0_3 hfx) ?_
  refine r_getIE dX11_mustStand_4 flX11_226 (by first | assumption | exact hsh _ _ rfl) r17 (fun b_4 => ?_)
  refine j_if_eq (tgt := 21) dX11_mustStand_7 rfl (by first | omega | (split <;> omega)) (fun c_7 => ?_) (fun c_7 => ?_)
  · refine j_vret dX11_mustStand_21 rfl ?_
    exact rV_of rfl
  · exact absurd h3 (by omega)
theorem cg_stand1 (hsh : ShOK sh) (hfx : FxOK F) (hs : StAt sh F 2) (hR : Rp I 2 w) (h3 : w 8 = 1) : jS G d mX11_mustStand [jR (some 0)] (sh, I, F) 1 6 (rX xIse (sh, I, F)) := by
  obtain ⟨r0, r1, rP, rO, rA, r9, r10, r11, r12, r13, r14, r15, r16, r17⟩ := id hR
  refine jS_go [some (jR (some 0))] (by decide +kernel) rfl (by simp [jone]) (Nat.le_of_ble_eq_true rfl) rfl (fun hok => ?_)
  refine j_aload_n dX11_mustStand_0 rfl ?_
  refine r_getS dX11_mustStand_1 flX11_20 (by first | assumption | exact hsh _ _ rfl) (fx_0_3 hfx) ?_
  refine r_getIE dX11_mustStand_4 flX11_226 (by first | assumption | exact hsh _ _ rfl) r17 (fun b_4 => ?_)
  refine j_if_eq (tgt := 21) dX11_mustStand_7 rfl (by first | omega | (split <;> omega)) (fun c_7 => ?_) (fun c_7 => ?_)
  · exact absurd h3 (by omega)
  · exact j_throwW dX11_mustStand_10 dX11_mustStand_13 dX11_mustStand_14 dX11_mustStand_17 dX11_mustStand_20 rfl th_stand (⟨rfl, rfl⟩)
theorem cg_two0 (hsh : ShOK sh) (hfx : FxOK F) (hR : Rp I 2 w) {p q : Int} (h1 : jin p) (h2 : jin q) (h3 : gP w p ∧ gP w q) (h5 : ¬ p = q) : jS G (d + 1) mX11_mustBeTwo [jR (some 0), jI p, jI q] (sh, I, F) 0 0 (rV (sh, I, F)) := by
  refine jS_go [some (jR (some 0)), some (jI p), some (jI q)] (by decide +kernel) rfl (by simp [jone]) (Nat.le_of_ble_eq_true rfl) rfl (fun hok => ?_)
  refine j_aload_n dX11_mustBeTwo_0 rfl ?_
  refine j_iload_n dX11_mustBeTwo_1 rfl ?_
  refine r_cv1V dX11_mustBeTwo_2 cvX11_119 (by decide) (by first | assumption | exact hsh _ _ rfl) (Nat.le_of_ble_eq_true rfl) (Nat.le_of_eq (Nat.zero_add _)) (Nat.le_of_eq (Nat.zero_add _)) (cg_person0 hsh hfx hR (by omega) h3.1) ?_
  refine j_aload_n dX11_mustBeTwo_5 rfl ?_
  refine j_iload_n dX11_mustBeTwo_6 rfl ?_
  refine r_cv1V dX11_mustBeTwo_7 cvX11_119 (by decide) (by first | assumption | exact hsh _ _ rfl) (Nat.le_of_ble_eq_true rfl) (Nat.le_of_eq (Nat.zero_add _)) (Nat.le_of_eq (Nat.zero_add _)) (cg_person0 hsh hfx hR (by omega) h3.2) ?_
  refine j_iload_n dX11_mustBeTwo_10 rfl ?_
  refine j_iload_n dX11_mustBeTwo_11 rfl ?_
  refine j_icmp_ne (tgt := 26) dX11_mustBeTwo_12 rfl (by first | omega | (split <;> omega)) (by first | omega | (split <;> omega)) (fun c_12 => ?_) (fun c_12 => by exact absurd (by omega) c_12)
  refine j_vret dX11_mustBeTwo_26 rfl ?_
  exact rV_of rfl
theorem cg_two1 (hsh : ShOK sh) (hfx : FxOK F) (hR : Rp I 2 w) {p q : Int} (h1 : jin p) (h2 : jin q) (h3 : ¬ (gP w p ∧ gP w q)) : jS G (d + 1) mX11_mustBeTwo [jR (some 0), jI p, jI q] (sh, I, F) 1 6 (rX xIob (sh, I, F)) := by
  refine jS_go [some (jR (some 0)), some (jI p), some (jI q)] (by decide +kernel) rfl (by simp [jone]) (Nat.le_of_ble_eq_true rfl) rfl (fun hok => ?_)
  by_cases h4 : gP w p
  · refine j_aload_n dX11_mustBeTwo_0 rfl ?_
    refine j_iload_n dX11_mustBeTwo_1 rfl ?_
    refine r_cv1V dX11_mustBeTwo_2 cvX11_119 (by decide) (by first | assumption | exact hsh _ _ rfl) (Nat.le_of_ble_eq_true rfl) (Nat.le_of_eq (Nat.zero_add _)) (Nat.le_of_eq (Nat.zero_add _)) (cg_person0 hsh hfx hR (by omega) h4) ?_
    refine j_aload_n dX11_mustBeTwo_5 rfl ?_
    refine j_iload_n dX11_mustBeTwo_6 rfl ?_
    exact r_cv1X dX11_mustBeTwo_7 cvX11_119 (by decide) (by first | assumption | exact hsh _ _ rfl) (Nat.le_of_ble_eq_true rfl) (Nat.le_refl _) (Nat.le_refl _) rfl (cg_person1 hsh hfx hR (by omega) (fun z => h3 ⟨h4, z⟩)) (⟨rfl, rfl⟩)
  · refine j_aload_n dX11_mustBeTwo_0 rfl ?_
    refine j_iload_n dX11_mustBeTwo_1 rfl ?_
    exact r_cv1X dX11_mustBeTwo_2 cvX11_119 (by decide) (by first | assumption | exact hsh _ _ rfl) (Nat.le_of_ble_eq_true rfl) (Nat.le_refl _) (Nat.le_refl _) rfl (cg_person1 hsh hfx hR (by omega) h4) (⟨rfl, rfl⟩)
theorem cg_two2 (hsh : ShOK sh) (hfx : FxOK F) (hR : Rp I 2 w) {p q : Int} (h1 : jin p) (h2 : jin q) (h3 : gP w p ∧ gP w q) (h5 : p = q) : jS G (d + 1) mX11_mustBeTwo [jR (some 0), jI p, jI q] (sh, I, F) 1 6 (rX xIae (sh, I, F)) := by
  refine jS_go [some (jR (some 0)), some (jI p), some (jI q)] (by decide +kernel) rfl (by simp [jone]) (Nat.le_of_ble_eq_true rfl) rfl (fun hok => ?_)
  refine j_aload_n dX11_mustBeTwo_0 rfl ?_
  refine j_iload_n dX11_mustBeTwo_1 rfl ?_
  refine r_cv1V dX11_mustBeTwo_2 cvX11_119 (by decide) (by first | assumption | exact hsh _ _ rfl) (Nat.le_of_ble_eq_true rfl) (Nat.le_of_eq (Nat.zero_add _)) (Nat.le_of_eq (Nat.zero_add _)) (cg_person0 hsh hfx hR (by omega) h3.1) ?_
  refine j_aload_n dX11_mustBeTwo_5 rfl ?_
  refine j_iload_n dX11_mustBeTwo_6 rfl ?_
  refine r_cv1V dX11_mustBeTwo_7 cvX11_119 (by decide) (by first | assumption | exact hsh _ _ rfl) (Nat.le_of_ble_eq_true rfl) (Nat.le_of_eq (Nat.zero_add _)) (Nat.le_of_eq (Nat.zero_add _)) (cg_person0 hsh hfx hR (by omega) h3.2) ?_
  refine j_iload_n dX11_mustBeTwo_10 rfl ?_
  refine j_iload_n dX11_mustBeTwo_11 rfl ?_
  refine j_icmp_ne (tgt := 26) dX11_mustBeTwo_12 rfl (by first | omega | (split <;> omega)) (by first | omega | (split <;> omega)) (fun c_12 => by exact absurd (by omega) c_12) (fun c_12 => ?_)
  exact j_throwW dX11_mustBeTwo_15 dX11_mustBeTwo_18 dX11_mustBeTwo_19 dX11_mustBeTwo_22 dX11_mustBeTwo_25 rfl th_two (⟨rfl, rfl⟩)
end
