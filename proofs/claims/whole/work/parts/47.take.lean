/-! ONE STATE TAKES ANOTHER'S -/
theorem jcp_ne {I : Nat → Int → Int} {i j a : Nat} {sp dp n : Int} (h : a ≠ j) : jcp I i sp j dp n a = I a := by
  funext b
  unfold jcp
  rw [if_neg (fun q => h q.1)]
theorem jcp_in {I : Nat → Int → Int} {i j : Nat} {n x : Int} (h0 : 0 ≤ x) (h1 : x < n) : jcp I i 0 j 0 n j x = I i x := by
  unfold jcp
  rw [if_pos ⟨rfl, by omega, by omega⟩]
  congr 1
  omega
def TkO (I : Nat → Int → Int) (e t : Nat) (J : Nat → Int → Int) : Prop := (∀ k, 0 ≤ k → k ≤ 17 → (k ≤ 1 ∨ 9 ≤ k) → J e k = I t k) ∧ (∀ x, 0 ≤ x → x < 8 → J (e + 1) x = I (t + 1) x ∧ J (e + 3) x = I (t + 3) x ∧ J (e + 4) x = I (t + 4) x ∧ J (e + 5) x = I (t + 5) x ∧ J (e + 6) x = I (t + 6) x) ∧ (∀ x, 0 ≤ x → x < 56 → J (e + 2) x = I (t + 2) x) ∧ (∀ x, 0 ≤ x → x < 64 → J (e + 7) x = I (t + 7) x) ∧ ∀ a, a < e ∨ e + 7 < a → J a = I a
theorem TkO_Rp {I J : Nat → Int → Int} {e t : Nat} {w : Int → Int} (h : TkO I e t J) (hR : Rp I t w) : Rp J e w := by
  obtain ⟨h1, h2, h3, h4, -⟩ := h
  obtain ⟨r0, r1, rP, rO, rA, r9, r10, r11, r12, r13, r14, r15, r16, r17⟩ := hR
  refine ⟨by rw [h1 0 (by decide) (by decide) (by decide)]; exact r0, r1, fun p p0 p1 => ?_, fun p q p0 p1 q0 q1 => ?_, ?_, ?_, ?_, ?_, ?_, ?_, ?_, ?_, ⟨fun x x0 x1 => by have hx := h2 x (by omega) x1; rw [hx.2.1, hx.2.2.1, hx.2.2.2.2]; exact r16.1 x x0 x1, fun p q p0 p1 q0 q1 hz => by rw [h4 _ (by omega) (by omega)]; exact r16.2 p q p0 p1 q0 q1 hz⟩, ?_⟩
  · obtain ⟨i0, i1, i2, i3, i4, i5, i6⟩ := rP p p0 p1
    obtain ⟨x1, x3, x4, x5, x6⟩ := h2 p p0 (by omega)
    unfold RpP
    rw [x1, x3, x4, x5, x6, h1 1 (by decide) (by decide) (by decide)]
    exact ⟨i0, i1, i2, i3, i4, i5, fun k k0 k1 => by rw [h3 _ (by omega) (by omega)]; exact i6 k k0 k1⟩
  · rw [h4 _ (by omega) (by omega)]; exact rO p q p0 p1 q0 q1
  all_goals (rw [h1 _ (by decide) (by decide) (by decide)]; assumption)
section
variable {G : jzG} {d : Nat} {sh : List (Nat × Nat)} {I : Nat → Int → Int} {F : Nat → Int → Option Nat} {e t : Nat}
theorem sc_takeFrom (he : StAt sh F e) (ht : StAt sh F t) (hd : e + 9 < t ∨ t + 9 < e) (h17 : I t 17 = 0 ∨ I t 17 = 1) : jS G d mX9_takeFrom [jR (some e), jR (some t)] (sh, I, F) 0 0 (fun o h => ∃ J, o = .inl none ∧ h = (sh, J, jup F e 18 (F t 18)) ∧ TkO I e t J) := by
  obtain ⟨g0, g1, g2, g3, g4, g5, g6, g7, g8, g9, e1, e2, e3, e4, e5, e6, e7, e8, e9⟩ := id he
  obtain ⟨m0, m1, m2, m3, m4, m5, m6, m7, m8, m9, n1, n2, n3, n4, n5, n6, n7, n8, n9⟩ := id ht
  refine jS_go [some (jR (some e)), some (jR (some t))] (by decide +kernel) rfl (by simp [jone]) (Nat.le_of_ble_eq_true rfl) rfl (fun hok => ?_)
  refine j_aload_n dX9_takeFrom_0 rfl ?_
  refine j_aload_n dX9_takeFrom_1 rfl ?_
  refine r_getI dX9_takeFrom_2 flX9_57 (by first | assumption | exact hsh _ _ rfl) (fun b_2 => ?_)
  refine r_putI dX9_takeFrom_5 flX9_57 rfl (by first | assumption | exact hsh _ _ rfl) (by first | omega | (split <;> omega)) (fun q => by cases q) ?_
  generalize hK1 : jup I e 0 (I t 0) = K1
  have fr1 : ∀ a, a < e ∨ e + 7 < a → K1 a = I a := fun a ha => by rw [← hK1, jup_ne _ _ _ (by omega)]
  refine j_aload_n dX9_takeFrom_8 rfl ?_
  refine j_aload_n dX9_takeFrom_9 rfl ?_
  refine r_getIE dX9_takeFrom_10 flX9_60 (by first | assumption | exact hsh _ _ rfl) (show _ = I t 1 by rw [fr1 t (by omega)]) (fun b_10 => ?_)
  refine r_putI dX9_takeFrom_13 flX9_60 rfl (by first | assumption | exact hsh _ _ rfl) (by first | omega | (split <;> omega)) (fun q => by cases q) ?_
  generalize hK2 : jup K1 e 1 (I t 1) = K2
  have fr2 : ∀ a, a < e ∨ e + 7 < a → K2 a = I a := fun a ha => by rw [← hK2, jup_ne _ _ _ (by omega)]; exact fr1 a ha
  refine j_aload_n dX9_takeFrom_16 rfl ?_
  refine r_getS dX9_takeFrom_17 flX9_9 (by first | assumption | exact hsh _ _ rfl) (by assumption) ?_
  refine j_iconst dX9_takeFrom_20 ?_
  refine j_aload_n dX9_takeFrom_21 rfl ?_
  refine r_getS dX9_takeFrom_22 flX9_9 (by first | assumption | exact hsh _ _ rfl) (by assumption) ?_
  refine j_iconst dX9_takeFrom_25 ?_
  refine j_bipush dX9_takeFrom_26 (by decide) ?_
  refine r_copy dX9_takeFrom_28 lmX9_63 (by first | assumption | exact hsh _ _ rfl) (by first | assumption | exact hsh _ _ rfl) (by first | omega | (split <;> omega)) (by first | omega | (split <;> omega)) (by first | omega | (split <;> omega)) (by first | omega | (split <;> omega)) (by first | omega | (split <;> omega)) (Nat.le_of_ble_eq_true rfl) ?_
  generalize hK3 : jcp K2 (t + 1) 0 (e + 1) 0 8 = K3
  have fr3 : ∀ a, a < e ∨ e + 7 < a → K3 a = I a := fun a ha => by rw [← hK3, jcp_ne (by omega)]; exact fr2 a ha
  refine j_aload_n dX9_takeFrom_31 rfl ?_
  refine r_getS dX9_takeFrom_32 flX9_15 (by first | assumption | exact hsh _ _ rfl) (by assumption) ?_
  refine j_iconst dX9_takeFrom_35 ?_
  refine j_aload_n dX9_takeFrom_36 rfl ?_
  refine r_getS dX9_takeFrom_37 flX9_15 (by first | assumption | exact hsh _ _ rfl) (by assumption) ?_
  refine j_iconst dX9_takeFrom_40 ?_
  refine j_bipush dX9_takeFrom_41 (by decide) ?_
  refine r_copy dX9_takeFrom_43 lmX9_63 (by first | assumption | exact hsh _ _ rfl) (by first | assumption | exact hsh _ _ rfl) (by first | omega | (split <;> omega)) (by first | omega | (split <;> omega)) (by first | omega | (split <;> omega)) (by first | omega | (split <;> omega)) (by first | omega | (split <;> omega)) (Nat.le_of_ble_eq_true rfl) ?_
  generalize hK4 : jcp K3 (t + 2) 0 (e + 2) 0 56 = K4
  have fr4 : ∀ a, a < e ∨ e + 7 < a → K4 a = I a := fun a ha => by rw [← hK4, jcp_ne (by omega)]; exact fr3 a ha
  refine j_aload_n dX9_takeFrom_46 rfl ?_
  refine r_getS dX9_takeFrom_47 flX9_18 (by first | assumption | exact hsh _ _ rfl) (by assumption) ?_
  refine j_iconst dX9_takeFrom_50 ?_
  refine j_aload_n dX9_takeFrom_51 rfl ?_
  refine r_getS dX9_takeFrom_52 flX9_18 (by first | assumption | exact hsh _ _ rfl) (by assumption) ?_
  refine j_iconst dX9_takeFrom_55 ?_
  refine j_bipush dX9_takeFrom_56 (by decide) ?_
  refine r_copy dX9_takeFrom_58 lmX9_63 (by first | assumption | exact hsh _ _ rfl) (by first | assumption | exact hsh _ _ rfl) (by first | omega | (split <;> omega)) (by first | omega | (split <;> omega)) (by first | omega | (split <;> omega)) (by first | omega | (split <;> omega)) (by first | omega | (split <;> omega)) (Nat.le_of_ble_eq_true rfl) ?_
  generalize hK5 : jcp K4 (t + 3) 0 (e + 3) 0 8 = K5
  have fr5 : ∀ a, a < e ∨ e + 7 < a → K5 a = I a := fun a ha => by rw [← hK5, jcp_ne (by omega)]; exact fr4 a ha
  refine j_aload_n dX9_takeFrom_61 rfl ?_
  refine r_getS dX9_takeFrom_62 flX9_21 (by first | assumption | exact hsh _ _ rfl) (by assumption) ?_
  refine j_iconst dX9_takeFrom_65 ?_
  refine j_aload_n dX9_takeFrom_66 rfl ?_
  refine r_getS dX9_takeFrom_67 flX9_21 (by first | assumption | exact hsh _ _ rfl) (by assumption) ?_
  refine j_iconst dX9_takeFrom_70 ?_
  refine j_bipush dX9_takeFrom_71 (by decide) ?_
  refine r_copy dX9_takeFrom_73 lmX9_63 (by first | assumption | exact hsh _ _ rfl) (by first | assumption | exact hsh _ _ rfl) (by first | omega | (split <;> omega)) (by first | omega | (split <;> omega)) (by first | omega | (split <;> omega)) (by first | omega | (split <;> omega)) (by first | omega | (split <;> omega)) (Nat.le_of_ble_eq_true rfl) ?_
  generalize hK6 : jcp K5 (t + 4) 0 (e + 4) 0 8 = K6
  have fr6 : ∀ a, a < e ∨ e + 7 < a → K6 a = I a := fun a ha => by rw [← hK6, jcp_ne (by omega)]; exact fr5 a ha
  refine j_aload_n dX9_takeFrom_76 rfl ?_
  refine r_getS dX9_takeFrom_77 flX9_24 (by first | assumption | exact hsh _ _ rfl) (by assumption) ?_
  refine j_iconst dX9_takeFrom_80 ?_
  refine j_aload_n dX9_takeFrom_81 rfl ?_
  refine r_getS dX9_takeFrom_82 flX9_24 (by first | assumption | exact hsh _ _ rfl) (by assumption) ?_
  refine j_iconst dX9_takeFrom_85 ?_
  refine j_bipush dX9_takeFrom_86 (by decide) ?_
  refine r_copy dX9_takeFrom_88 lmX9_63 (by first | assumption | exact hsh _ _ rfl) (by first | assumption | exact hsh _ _ rfl) (by first | omega | (split <;> omega)) (by first | omega | (split <;> omega)) (by first | omega | (split <;> omega)) (by first | omega | (split <;> omega)) (by first | omega | (split <;> omega)) (Nat.le_of_ble_eq_true rfl) ?_
  generalize hK7 : jcp K6 (t + 5) 0 (e + 5) 0 8 = K7
  have fr7 : ∀ a, a < e ∨ e + 7 < a → K7 a = I a := fun a ha => by rw [← hK7, jcp_ne (by omega)]; exact fr6 a ha
  refine j_aload_n dX9_takeFrom_91 rfl ?_
  refine r_getS dX9_takeFrom_92 flX9_27 (by first | assumption | exact hsh _ _ rfl) (by assumption) ?_
  refine j_iconst dX9_takeFrom_95 ?_
  refine j_aload_n dX9_takeFrom_96 rfl ?_
  refine r_getS dX9_takeFrom_97 flX9_27 (by first | assumption | exact hsh _ _ rfl) (by assumption) ?_
  refine j_iconst dX9_takeFrom_100 ?_
  refine j_bipush dX9_takeFrom_101 (by decide) ?_
  refine r_copy dX9_takeFrom_103 lmX9_63 (by first | assumption | exact hsh _ _ rfl) (by first | assumption | exact hsh _ _ rfl) (by first | omega | (split <;> omega)) (by first | omega | (split <;> omega)) (by first | omega | (split <;> omega)) (by first | omega | (split <;> omega)) (by first | omega | (split <;> omega)) (Nat.le_of_ble_eq_true rfl) ?_
  generalize hK8 : jcp K7 (t + 6) 0 (e + 6) 0 8 = K8
  have fr8 : ∀ a, a < e ∨ e + 7 < a → K8 a = I a := fun a ha => by rw [← hK8, jcp_ne (by omega)]; exact fr7 a ha
  refine j_aload_n dX9_takeFrom_106 rfl ?_
  refine r_getS dX9_takeFrom_107 flX9_30 (by first | assumption | exact hsh _ _ rfl) (by assumption) ?_
  refine j_iconst dX9_takeFrom_110 ?_
  refine j_aload_n dX9_takeFrom_111 rfl ?_
  refine r_getS dX9_takeFrom_112 flX9_30 (by first | assumption | exact hsh _ _ rfl) (by assumption) ?_
  refine j_iconst dX9_takeFrom_115 ?_
  refine j_bipush dX9_takeFrom_116 (by decide) ?_
  refine r_copy dX9_takeFrom_118 lmX9_63 (by first | assumption | exact hsh _ _ rfl) (by first | assumption | exact hsh _ _ rfl) (by first | omega | (split <;> omega)) (by first | omega | (split <;> omega)) (by first | omega | (split <;> omega)) (by first | omega | (split <;> omega)) (by first | omega | (split <;> omega)) (Nat.le_of_ble_eq_true rfl) ?_
  generalize hK9 : jcp K8 (t + 7) 0 (e + 7) 0 64 = K9
  have fr9 : ∀ a, a < e ∨ e + 7 < a → K9 a = I a := fun a ha => by rw [← hK9, jcp_ne (by omega)]; exact fr8 a ha
  refine j_aload_n dX9_takeFrom_121 rfl ?_
  refine j_aload_n dX9_takeFrom_122 rfl ?_
  refine r_getIE dX9_takeFrom_123 flX9_33 (by first | assumption | exact hsh _ _ rfl) (show _ = I t 9 by rw [fr9 t (by omega)]) (fun b_123 => ?_)
  refine r_putI dX9_takeFrom_126 flX9_33 rfl (by first | assumption | exact hsh _ _ rfl) (by first | omega | (split <;> omega)) (fun q => by cases q) ?_
  generalize hK10 : jup K9 e 9 (I t 9) = K10
  have fr10 : ∀ a, a < e ∨ e + 7 < a → K10 a = I a := fun a ha => by rw [← hK10, jup_ne _ _ _ (by omega)]; exact fr9 a ha
  refine j_aload_n dX9_takeFrom_129 rfl ?_
  refine j_aload_n dX9_takeFrom_130 rfl ?_
  refine r_getIE dX9_takeFrom_131 flX9_37 (by first | assumption | exact hsh _ _ rfl) (show _ = I t 10 by rw [fr10 t (by omega)]) (fun b_131 => ?_)
  refine r_putI dX9_takeFrom_134 flX9_37 rfl (by first | assumption | exact hsh _ _ rfl) (by first | omega | (split <;> omega)) (fun q => by cases q) ?_
  generalize hK11 : jup K10 e 10 (I t 10) = K11
  have fr11 : ∀ a, a < e ∨ e + 7 < a → K11 a = I a := fun a ha => by rw [← hK11, jup_ne _ _ _ (by omega)]; exact fr10 a ha
  refine j_aload_n dX9_takeFrom_137 rfl ?_
  refine j_aload_n dX9_takeFrom_138 rfl ?_
  refine r_getIE dX9_takeFrom_139 flX9_69 (by first | assumption | exact hsh _ _ rfl) (show _ = I t 11 by rw [fr11 t (by omega)]) (fun b_139 => ?_)
  refine r_putI dX9_takeFrom_142 flX9_69 rfl (by first | assumption | exact hsh _ _ rfl) (by first | omega | (split <;> omega)) (fun q => by cases q) ?_
  generalize hK12 : jup K11 e 11 (I t 11) = K12
  have fr12 : ∀ a, a < e ∨ e + 7 < a → K12 a = I a := fun a ha => by rw [← hK12, jup_ne _ _ _ (by omega)]; exact fr11 a ha
  refine j_aload_n dX9_takeFrom_145 rfl ?_
  refine j_aload_n dX9_takeFrom_146 rfl ?_
  refine r_getIE dX9_takeFrom_147 flX9_72 (by first | assumption | exact hsh _ _ rfl) (show _ = I t 12 by rw [fr12 t (by omega)]) (fun b_147 => ?_)
  refine r_putI dX9_takeFrom_150 flX9_72 rfl (by first | assumption | exact hsh _ _ rfl) (by first | omega | (split <;> omega)) (fun q => by cases q) ?_
  generalize hK13 : jup K12 e 12 (I t 12) = K13
  have fr13 : ∀ a, a < e ∨ e + 7 < a → K13 a = I a := fun a ha => by rw [← hK13, jup_ne _ _ _ (by omega)]; exact fr12 a ha
  refine j_aload_n dX9_takeFrom_153 rfl ?_
  refine j_aload_n dX9_takeFrom_154 rfl ?_
  refine r_getIE dX9_takeFrom_155 flX9_75 (by first | assumption | exact hsh _ _ rfl) (show _ = I t 13 by rw [fr13 t (by omega)]) (fun b_155 => ?_)
  refine r_putI dX9_takeFrom_158 flX9_75 rfl (by first | assumption | exact hsh _ _ rfl) (by first | omega | (split <;> omega)) (fun q => by cases q) ?_
  generalize hK14 : jup K13 e 13 (I t 13) = K14
  have fr14 : ∀ a, a < e ∨ e + 7 < a → K14 a = I a := fun a ha => by rw [← hK14, jup_ne _ _ _ (by omega)]; exact fr13 a ha
  refine j_aload_n dX9_takeFrom_161 rfl ?_
  refine j_aload_n dX9_takeFrom_162 rfl ?_
  refine r_getIE dX9_takeFrom_163 flX9_40 (by first | assumption | exact hsh _ _ rfl) (show _ = I t 14 by rw [fr14 t (by omega)]) (fun b_163 => ?_)
  refine r_putI dX9_takeFrom_166 flX9_40 rfl (by first | assumption | exact hsh _ _ rfl) (by first | omega | (split <;> omega)) (fun q => by cases q) ?_
  generalize hK15 : jup K14 e 14 (I t 14) = K15
  have fr15 : ∀ a, a < e ∨ e + 7 < a → K15 a = I a := fun a ha => by rw [← hK15, jup_ne _ _ _ (by omega)]; exact fr14 a ha
  refine j_aload_n dX9_takeFrom_169 rfl ?_
  refine j_aload_n dX9_takeFrom_170 rfl ?_
  refine r_getIE dX9_takeFrom_171 flX9_78 (by first | assumption | exact hsh _ _ rfl) (show _ = I t 15 by rw [fr15 t (by omega)]) (fun b_171 => ?_)
  refine r_putI dX9_takeFrom_174 flX9_78 rfl (by first | assumption | exact hsh _ _ rfl) (by first | omega | (split <;> omega)) (fun q => by cases q) ?_
  generalize hK16 : jup K15 e 15 (I t 15) = K16
  have fr16 : ∀ a, a < e ∨ e + 7 < a → K16 a = I a := fun a ha => by rw [← hK16, jup_ne _ _ _ (by omega)]; exact fr15 a ha
  refine j_aload_n dX9_takeFrom_177 rfl ?_
  refine j_aload_n dX9_takeFrom_178 rfl ?_
  refine r_getIE dX9_takeFrom_179 flX9_81 (by first | assumption | exact hsh _ _ rfl) (show _ = I t 16 by rw [fr16 t (by omega)]) (fun b_179 => ?_)
  refine r_putI dX9_takeFrom_182 flX9_81 rfl (by first | assumption | exact hsh _ _ rfl) (by first | omega | (split <;> omega)) (fun q => by cases q) ?_
  generalize hK17 : jup K16 e 16 (I t 16) = K17
  have fr17 : ∀ a, a < e ∨ e + 7 < a → K17 a = I a := fun a ha => by rw [← hK17, jup_ne _ _ _ (by omega)]; exact fr16 a ha
  refine j_aload_n dX9_takeFrom_185 rfl ?_
  refine j_aload_n dX9_takeFrom_186 rfl ?_
  refine r_getIE dX9_takeFrom_187 flX9_84 (by first | assumption | exact hsh _ _ rfl) (show _ = I t 17 by rw [fr17 t (by omega)]) (fun b_187 => ?_)
  refine r_putI dX9_takeFrom_190 flX9_84 rfl (by first | assumption | exact hsh _ _ rfl) (by first | omega | (split <;> omega)) (fun _ => h17) ?_
  generalize hK18 : jup K17 e 17 (I t 17) = K18
  have fr18 : ∀ a, a < e ∨ e + 7 < a → K18 a = I a := fun a ha => by rw [← hK18, jup_ne _ _ _ (by omega)]; exact fr17 a ha
  refine j_aload_n dX9_takeFrom_193 rfl ?_
  refine j_aload_n dX9_takeFrom_194 rfl ?_
  refine r_getR dX9_takeFrom_195 flX9_88 (by first | assumption | exact hsh _ _ rfl) ?_
  refine r_putR dX9_takeFrom_198 flX9_88 rfl (by first | assumption | exact hsh _ _ rfl) ?_
  refine j_vret dX9_takeFrom_201 rfl ?_
  refine ⟨K18, rfl, rfl, ⟨fun k k0 k1 k2 => ?_, fun x x0 x1 => ⟨?_, ?_, ?_, ?_, ?_⟩, fun x x0 x1 => ?_, fun x x0 x1 => ?_, fr18⟩⟩
  · have hk : k = 0 ∨ k = 1 ∨ k = 9 ∨ k = 10 ∨ k = 11 ∨ k = 12 ∨ k = 13 ∨ k = 14 ∨ k = 15 ∨ k = 16 ∨ k = 17 := by omega
    rcases hk with rfl | rfl | rfl | rfl | rfl | rfl | rfl | rfl | rfl | rfl | rfl
    · rw [← hK18, jup_row _ _ _ (by decide), ← hK17, jup_row _ _ _ (by decide), ← hK16, jup_row _ _ _ (by decide), ← hK15, jup_row _ _ _ (by decide), ← hK14, jup_row _ _ _ (by decide), ← hK13, jup_row _ _ _ (by decide), ← hK12, jup_row _ _ _ (by decide), ← hK11, jup_row _ _ _ (by decide), ← hK10, jup_row _ _ _ (by decide), ← hK9, jcp_ne (by omega), ← hK8, jcp_ne (by omega), ← hK7, jcp_ne (by omega), ← hK6, jcp_ne (by omega), ← hK5, jcp_ne (by omega), ← hK4, jcp_ne (by omega), ← hK3, jcp_ne (by omega), ← hK2, jup_row _ _ _ (by decide), ← hK1, jup_same]
    · rw [← hK18, jup_row _ _ _ (by decide), ← hK17, jup_row _ _ _ (by decide), ← hK16, jup_row _ _ _ (by decide), ← hK15, jup_row _ _ _ (by decide), ← hK14, jup_row _ _ _ (by decide), ← hK13, jup_row _ _ _ (by decide), ← hK12, jup_row _ _ _ (by decide), ← hK11, jup_row _ _ _ (by decide), ← hK10, jup_row _ _ _ (by decide), ← hK9, jcp_ne (by omega), ← hK8, jcp_ne (by omega), ← hK7, jcp_ne (by omega), ← hK6, jcp_ne (by omega), ← hK5, jcp_ne (by omega), ← hK4, jcp_ne (by omega), ← hK3, jcp_ne (by omega), ← hK2, jup_same]
    · rw [← hK18, jup_row _ _ _ (by decide), ← hK17, jup_row _ _ _ (by decide), ← hK16, jup_row _ _ _ (by decide), ← hK15, jup_row _ _ _ (by decide), ← hK14, jup_row _ _ _ (by decide), ← hK13, jup_row _ _ _ (by decide), ← hK12, jup_row _ _ _ (by decide), ← hK11, jup_row _ _ _ (by decide), ← hK10, jup_same]
    · rw [← hK18, jup_row _ _ _ (by decide), ← hK17, jup_row _ _ _ (by decide), ← hK16, jup_row _ _ _ (by decide), ← hK15, jup_row _ _ _ (by decide), ← hK14, jup_row _ _ _ (by decide), ← hK13, jup_row _ _ _ (by decide), ← hK12, jup_row _ _ _ (by decide), ← hK11, jup_same]
    · rw [← hK18, jup_row _ _ _ (by decide), ← hK17, jup_row _ _ _ (by decide), ← hK16, jup_row _ _ _ (by decide), ← hK15, jup_row _ _ _ (by decide), ← hK14, jup_row _ _ _ (by decide), ← hK13, jup_row _ _ _ (by decide), ← hK12, jup_same]
    · rw [← hK18, jup_row _ _ _ (by decide), ← hK17, jup_row _ _ _ (by decide), ← hK16, jup_row _ _ _ (by decide), ← hK15, jup_row _ _ _ (by decide), ← hK14, jup_row _ _ _ (by decide), ← hK13, jup_same]
    · rw [← hK18, jup_row _ _ _ (by decide), ← hK17, jup_row _ _ _ (by decide), ← hK16, jup_row _ _ _ (by decide), ← hK15, jup_row _ _ _ (by decide), ← hK14, jup_same]
    · rw [← hK18, jup_row _ _ _ (by decide), ← hK17, jup_row _ _ _ (by decide), ← hK16, jup_row _ _ _ (by decide), ← hK15, jup_same]
    · rw [← hK18, jup_row _ _ _ (by decide), ← hK17, jup_row _ _ _ (by decide), ← hK16, jup_same]
    · rw [← hK18, jup_row _ _ _ (by decide), ← hK17, jup_same]
    · rw [← hK18, jup_same]
  · rw [← hK18, jup_ne _ _ _ (by omega), ← hK17, jup_ne _ _ _ (by omega), ← hK16, jup_ne _ _ _ (by omega), ← hK15, jup_ne _ _ _ (by omega), ← hK14, jup_ne _ _ _ (by omega), ← hK13, jup_ne _ _ _ (by omega), ← hK12, jup_ne _ _ _ (by omega), ← hK11, jup_ne _ _ _ (by omega), ← hK10, jup_ne _ _ _ (by omega), ← hK9, jcp_ne (by omega), ← hK8, jcp_ne (by omega), ← hK7, jcp_ne (by omega), ← hK6, jcp_ne (by omega), ← hK5, jcp_ne (by omega), ← hK4, jcp_ne (by omega), ← hK3, jcp_in x0 x1, fr2 (t + 1) (by omega)]
  · rw [← hK18, jup_ne _ _ _ (by omega), ← hK17, jup_ne _ _ _ (by omega), ← hK16, jup_ne _ _ _ (by omega), ← hK15, jup_ne _ _ _ (by omega), ← hK14, jup_ne _ _ _ (by omega), ← hK13, jup_ne _ _ _ (by omega), ← hK12, jup_ne _ _ _ (by omega), ← hK11, jup_ne _ _ _ (by omega), ← hK10, jup_ne _ _ _ (by omega), ← hK9, jcp_ne (by omega), ← hK8, jcp_ne (by omega), ← hK7, jcp_ne (by omega), ← hK6, jcp_ne (by omega), ← hK5, jcp_in x0 x1, fr4 (t + 3) (by omega)]
  · rw [← hK18, jup_ne _ _ _ (by omega), ← hK17, jup_ne _ _ _ (by omega), ← hK16, jup_ne _ _ _ (by omega), ← hK15, jup_ne _ _ _ (by omega), ← hK14, jup_ne _ _ _ (by omega), ← hK13, jup_ne _ _ _ (by omega), ← hK12, jup_ne _ _ _ (by omega), ← hK11, jup_ne _ _ _ (by omega), ← hK10, jup_ne _ _ _ (by omega), ← hK9, jcp_ne (by omega), ← hK8, jcp_ne (by omega), ← hK7, jcp_ne (by omega), ← hK6, jcp_in x0 x1, fr5 (t + 4) (by omega)]
  · rw [← hK18, jup_ne _ _ _ (by omega), ← hK17, jup_ne _ _ _ (by omega), ← hK16, jup_ne _ _ _ (by omega), ← hK15, jup_ne _ _ _ (by omega), ← hK14, jup_ne _ _ _ (by omega), ← hK13, jup_ne _ _ _ (by omega), ← hK12, jup_ne _ _ _ (by omega), ← hK11, jup_ne _ _ _ (by omega), ← hK10, jup_ne _ _ _ (by omega), ← hK9, jcp_ne (by omega), ← hK8, jcp_ne (by omega), ← hK7, jcp_in x0 x1, fr6 (t + 5) (by omega)]
  · rw [← hK18, jup_ne _ _ _ (by omega), ← hK17, jup_ne _ _ _ (by omega), ← hK16, jup_ne _ _ _ (by omega), ← hK15, jup_ne _ _ _ (by omega), ← hK14, jup_ne _ _ _ (by omega), ← hK13, jup_ne _ _ _ (by omega), ← hK12, jup_ne _ _ _ (by omega), ← hK11, jup_ne _ _ _ (by omega), ← hK10, jup_ne _ _ _ (by omega), ← hK9, jcp_ne (by omega), ← hK8, jcp_in x0 x1, fr7 (t + 6) (by omega)]
  · rw [← hK18, jup_ne _ _ _ (by omega), ← hK17, jup_ne _ _ _ (by omega), ← hK16, jup_ne _ _ _ (by omega), ← hK15, jup_ne _ _ _ (by omega), ← hK14, jup_ne _ _ _ (by omega), ← hK13, jup_ne _ _ _ (by omega), ← hK12, jup_ne _ _ _ (by omega), ← hK11, jup_ne _ _ _ (by omega), ← hK10, jup_ne _ _ _ (by omega), ← hK9, jcp_ne (by omega), ← hK8, jcp_ne (by omega), ← hK7, jcp_ne (by omega), ← hK6, jcp_ne (by omega), ← hK5, jcp_ne (by omega), ← hK4, jcp_in x0 x1, fr3 (t + 2) (by omega)]
  · rw [← hK18, jup_ne _ _ _ (by omega), ← hK17, jup_ne _ _ _ (by omega), ← hK16, jup_ne _ _ _ (by omega), ← hK15, jup_ne _ _ _ (by omega), ← hK14, jup_ne _ _ _ (by omega), ← hK13, jup_ne _ _ _ (by omega), ← hK12, jup_ne _ _ _ (by omega), ← hK11, jup_ne _ _ _ (by omega), ← hK10, jup_ne _ _ _ (by omega), ← hK9, jcp_in x0 x1, fr8 (t + 7) (by omega)]
end
