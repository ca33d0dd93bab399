/-! THE MODEL READS ALL LINES OF A BANK'S TEXT -/
def wZr (v : Int → Int) (p z : Int) : Int → Int := fun k => if 116 ≤ k ∧ k < 180 ∧ (((k - 116) / 8 = p ∧ (k - 116) % 8 < z) ∨ ((k - 116) % 8 = p ∧ (k - 116) / 8 < z)) then 0 else v k
theorem wZr_0 {v : Int → Int} {p : Int} : wZr v p 0 = v := by
  funext k
  exact if_neg (by omega)
theorem wZr_s {v : Int → Int} {p z : Int} (hp : 0 ≤ p ∧ p < 8) (hz : 0 ≤ z ∧ z < 8) : wup (wup (wZr v p z) (116 + 8 * p + z) 0) (116 + 8 * z + p) 0 = wZr v p (z + 1) := by
  funext k
  by_cases e : k = 116 + 8 * z + p
  · subst e
    rw [wup_same]
    exact (if_pos (by omega)).symm
  · rw [wup_ne _ _ e]
    by_cases e2 : k = 116 + 8 * p + z
    · subst e2
      rw [wup_same]
      exact (if_pos (by omega)).symm
    · rw [wup_ne _ _ e2]
      unfold wZr
      by_cases c : 116 ≤ k ∧ k < 180 ∧ (((k - 116) / 8 = p ∧ (k - 116) % 8 < z) ∨ ((k - 116) % 8 = p ∧ (k - 116) / 8 < z))
      · rw [if_pos c, if_pos (by omega)]
      · rw [if_neg c, if_neg (by omega)]
theorem wPer_eq {B w : Int → Int} {be q : Int} (hw : 0 ≤ aPe w ∧ aPe w < 8) : wup (wZr (wup (wup (wup (wup (wup (wup (wPn B w (aPe w) q 7) (12 + 13 * aPe w + 0) be) (12 + 13 * aPe w + 1) 0) (12 + 13 * aPe w + 2) 0) (12 + 13 * aPe w + 3) 0) (12 + 13 * aPe w + 4) (-1)) (12 + 13 * aPe w + 5) 0) (aPe w) 8) 0 (aPe w + 1) = wPer B w be q := by
  generalize hp : aPe w = p at *
  funext k
  unfold wPer
  rw [hp]
  by_cases e0 : k = 0
  · subst e0; rw [wup_same, if_pos rfl]
  rw [wup_ne _ _ e0, if_neg e0]
  by_cases e1 : 12 + 13 * p ≤ k ∧ k < 12 + 13 * p + 13
  · rw [if_pos e1]
    unfold wZr
    rw [if_neg (by omega)]
    by_cases c5 : k = 12 + 13 * p + 5
    · rw [c5, wup_same, if_neg (by omega), if_neg (by omega), if_pos (by omega)]
    rw [wup_ne _ _ c5]
    by_cases c4 : k = 12 + 13 * p + 4
    · rw [c4, wup_same, if_neg (by omega), if_pos rfl]
    rw [wup_ne _ _ c4]
    by_cases c3 : k = 12 + 13 * p + 3
    · rw [c3, wup_same, if_neg (by omega), if_neg (by omega), if_pos (by omega)]
    rw [wup_ne _ _ c3]
    by_cases c2 : k = 12 + 13 * p + 2
    · rw [c2, wup_same, if_neg (by omega), if_neg (by omega), if_pos (by omega)]
    rw [wup_ne _ _ c2]
    by_cases c1 : k = 12 + 13 * p + 1
    · rw [c1, wup_same, if_neg (by omega), if_neg (by omega), if_pos (by omega)]
    rw [wup_ne _ _ c1]
    by_cases c0 : k = 12 + 13 * p + 0
    · rw [c0, wup_same, if_pos (by omega)]
    rw [wup_ne _ _ c0, if_neg (by omega), if_neg c4, if_neg (by omega)]
    unfold wPn
    rw [if_pos (by omega)]
  · rw [if_neg e1]
    unfold wZr
    by_cases c : 116 ≤ k ∧ k < 180 ∧ ((k - 116) / 8 = p ∨ (k - 116) % 8 = p)
    · rw [if_pos (by omega), if_pos c]
    · rw [if_neg (by omega), if_neg c, wup_ne _ _ (by omega), wup_ne _ _ (by omega), wup_ne _ _ (by omega), wup_ne _ _ (by omega), wup_ne _ _ (by omega), wup_ne _ _ (by omega)]
      exact if_neg (by omega)
section
variable {G : jzG} {d : Nat} {sh : List (Nat × Nat)} {I : Nat → Int → Int} {F : Nat → Int → Option Nat} {B : Int → Int} {n p b q : Int} {w : Int → Int}
theorem mb_person (hsh : ShOK sh) (hfx : FxOK F) (hM : Mt I B n (tkE B n q) q) (hq : 0 ≤ q ∧ q ≤ n) (hw : I 171 = w) (h8 : 0 ≤ aPe w ∧ aPe w ≤ 8) : jS G (d + 6) mX12_readPerson [jR (some 170)] (sh, I, F) 0 0 (rEI (bPer B n w q).1 sh F (bMd I B n (bPer B n w q))) := by
  have eP : aPe (I 171) = aPe w := by rw [hw]
  have i1 := tkN_in (B := B) (n := n) (q := q) hq.2
  have i2 := tkN_in (B := B) (n := n) (q := tkN B n q) i1.2
  have i3 := tkN_in (B := B) (n := n) i2.2
  have i4 := tkN_in (B := B) (n := n) i3.2
  refine jS_go [some (jR (some 170)), none, none, none] (by decide +kernel) rfl (by simp [jone]) (Nat.le_of_ble_eq_true rfl) rfl (fun hok => ?_)
  unfold bPer
  by_cases c8 : 8 ≤ aPe w
  · rw [if_pos c8]
    refine j_aload_n dX12_readPerson_0 rfl ?_
    refine r_cv0I dX12_readPerson_1 cvX12_74 (by decide) (by first | assumption | exact hsh _ _ rfl) (Nat.le_of_ble_eq_true rfl) (Nat.le_of_eq (Nat.zero_add _)) (Nat.le_of_eq (Nat.zero_add _)) (sm_people hsh hfx) ?_
    rw [eP]
    refine j_istore_n dX12_readPerson_4 (by decide) ?_
    refine j_iload_n dX12_readPerson_5 rfl ?_
    refine j_bipush dX12_readPerson_6 (by decide) ?_
    refine j_icmp_ne (tgt := 13) dX12_readPerson_8 rfl (by first | omega | (split <;> omega)) (by first | omega | (split <;> omega)) (fun c_8 => by exact absurd (by omega) c_8) (fun c_8 => ?_)
    refine j_iconst dX12_readPerson_11 ?_
    refine j_zret dX12_readPerson_12 rfl (by omega) ?_
    exact rEI_of rfl (bMd_0 (FrY_X FrX_0) hM)
  rw [if_neg c8]
  by_cases h1 : vWd B n (tkN B n q) 1
  · rw [if_pos h1]
    by_cases h2 : vNm B n (tkN B n (tkN B n q)) 5 1 99
    · rw [if_pos h2]
      have hx := tV_in h2
      by_cases h3 : vWd B n (tkN B n (tkN B n (tkN B n q))) 2
      · rw [if_pos h3]
        have eE := wd_E (by decide) i3.2 h3
        obtain ⟨q4, hq4⟩ : ∃ x, tkN B n (tkN B n (tkN B n (tkN B n q))) = x := ⟨_, rfl⟩
        rw [hq4]
        rw [hq4] at i4
        by_cases h4 : tkK B n q4 = 2 ∧ tkE B n q4 - q4 = 7
        · have hv4 : vNm B n q4 7 0 9999999 ∧ tkE B n q4 - q4 = 7 := by
            have hv := tkV_in (B := B) (q := q4) 7 (by decide) (fun i a0 a1 => by
              obtain ⟨u, rfl⟩ := Int.eq_ofNat_of_zero_le a0
              exact figs i4.2 h4.1 (by omega))
            exact ⟨⟨h4.1, by omega, by rw [h4.2]; exact hv.1, by rw [h4.2]; exact hv.2.1⟩, h4.2⟩
          rw [if_pos hv4]
          have hk := tkK_in (B := B) (n := n) (q := q4)
          have el : lx B n 48 57 q4 = tkE B n q4 := by
            rcases hk with k | ⟨k0, k | k | k⟩
            · omega
            · omega
            · unfold tkE; rw [if_pos k0, if_neg k.2.1, if_pos k.2.2]
            · omega
          -- the rows that are laid then
          have fin : ∀ (J : Nat → Int → Int), Mt J B n (tkE B n q4) q4 → FrY I J → J 171 = wPn B w (aPe w) q4 7 → jW G mX12_readPerson (d + 6) (rEI ((1, tkN B n q4, wPer B w (tV B n (tkN B n (tkN B n q))) q4) : bR).1 sh F (bMd I B n (1, tkN B n q4, wPer B w (tV B n (tkN B n (tkN B n q))) q4))) 52 [some (jR (some 170)), some (jI (aPe w)), some (jI (tV B n (tkN B n (tkN B n q)))), none] [] (sh, J, F) 0 0 := by
            intro J hMJ hf hJw
            obtain ⟨be, hbe⟩ : ∃ x, tV B n (tkN B n (tkN B n q)) = x := ⟨_, rfl⟩
            rw [hbe] at hx ⊢
            have eq := wPer_eq (B := B) (be := be) (q := q4) (w := w) ⟨h8.1, by omega⟩
            obtain ⟨p, hp⟩ : ∃ p, aPe w = p := ⟨_, rfl⟩
            rw [hp] at eq hJw c8 h8 ⊢
            refine j_aload_n dX12_readPerson_52 rfl ?_
            refine r_getS dX12_readPerson_53 flX12_13 (by first | assumption | exact hsh _ _ rfl) (fx_170_1 hfx) ?_
            refine j_iload_n dX12_readPerson_56 rfl ?_
            refine j_iconst dX12_readPerson_57 ?_
            refine r_cs2I dX12_readPerson_58 csX12_64 (Nat.le_of_ble_eq_true rfl) (Nat.le_of_eq (Nat.zero_add _)) (Nat.le_of_eq (Nat.zero_add _)) (sm_at) ?_
            refine j_iload_n dX12_readPerson_61 rfl ?_
            refine r_iastore dX12_readPerson_62 (by first | assumption | exact hsh _ _ rfl) (by first | omega | (split <;> omega)) (by first | omega | (split <;> omega)) (by first | omega | (split <;> omega)) ?_
            refine j_aload_n dX12_readPerson_63 rfl ?_
            refine r_getS dX12_readPerson_64 flX12_13 (by first | assumption | exact hsh _ _ rfl) (fx_170_1 hfx) ?_
            refine j_iload_n dX12_readPerson_67 rfl ?_
            refine j_iconst dX12_readPerson_68 ?_
            refine r_cs2I dX12_readPerson_69 csX12_64 (Nat.le_of_ble_eq_true rfl) (Nat.le_of_eq (Nat.zero_add _)) (Nat.le_of_eq (Nat.zero_add _)) (sm_at) ?_
            refine j_iconst dX12_readPerson_72 ?_
            refine r_iastore dX12_readPerson_73 (by first | assumption | exact hsh _ _ rfl) (by first | omega | (split <;> omega)) (by first | omega | (split <;> omega)) (by first | omega | (split <;> omega)) ?_
            refine j_aload_n dX12_readPerson_74 rfl ?_
            refine r_getS dX12_readPerson_75 flX12_13 (by first | assumption | exact hsh _ _ rfl) (fx_170_1 hfx) ?_
            refine j_iload_n dX12_readPerson_78 rfl ?_
            refine j_iconst dX12_readPerson_79 ?_
            refine r_cs2I dX12_readPerson_80 csX12_64 (Nat.le_of_ble_eq_true rfl) (Nat.le_of_eq (Nat.zero_add _)) (Nat.le_of_eq (Nat.zero_add _)) (sm_at) ?_
            refine j_iconst dX12_readPerson_83 ?_
            refine r_iastore dX12_readPerson_84 (by first | assumption | exact hsh _ _ rfl) (by first | omega | (split <;> omega)) (by first | omega | (split <;> omega)) (by first | omega | (split <;> omega)) ?_
            refine j_aload_n dX12_readPerson_85 rfl ?_
            refine r_getS dX12_readPerson_86 flX12_13 (by first | assumption | exact hsh _ _ rfl) (fx_170_1 hfx) ?_
            refine j_iload_n dX12_readPerson_89 rfl ?_
            refine j_iconst dX12_readPerson_90 ?_
            refine r_cs2I dX12_readPerson_91 csX12_64 (Nat.le_of_ble_eq_true rfl) (Nat.le_of_eq (Nat.zero_add _)) (Nat.le_of_eq (Nat.zero_add _)) (sm_at) ?_
            refine j_iconst dX12_readPerson_94 ?_
            refine r_iastore dX12_readPerson_95 (by first | assumption | exact hsh _ _ rfl) (by first | omega | (split <;> omega)) (by first | omega | (split <;> omega)) (by first | omega | (split <;> omega)) ?_
            refine j_aload_n dX12_readPerson_96 rfl ?_
            refine r_getS dX12_readPerson_97 flX12_13 (by first | assumption | exact hsh _ _ rfl) (fx_170_1 hfx) ?_
            refine j_iload_n dX12_readPerson_100 rfl ?_
            refine j_iconst dX12_readPerson_101 ?_
            refine r_cs2I dX12_readPerson_102 csX12_64 (Nat.le_of_ble_eq_true rfl) (Nat.le_of_eq (Nat.zero_add _)) (Nat.le_of_eq (Nat.zero_add _)) (sm_at) ?_
            refine j_iconst dX12_readPerson_105 ?_
            refine r_iastore dX12_readPerson_106 (by first | assumption | exact hsh _ _ rfl) (by first | omega | (split <;> omega)) (by first | omega | (split <;> omega)) (by first | omega | (split <;> omega)) ?_
            refine j_aload_n dX12_readPerson_107 rfl ?_
            refine r_getS dX12_readPerson_108 flX12_13 (by first | assumption | exact hsh _ _ rfl) (fx_170_1 hfx) ?_
            refine j_iload_n dX12_readPerson_111 rfl ?_
            refine j_iconst dX12_readPerson_112 ?_
            refine r_cs2I dX12_readPerson_113 csX12_64 (Nat.le_of_ble_eq_true rfl) (Nat.le_of_eq (Nat.zero_add _)) (Nat.le_of_eq (Nat.zero_add _)) (sm_at) ?_
            refine j_iconst dX12_readPerson_116 ?_
            refine r_iastore dX12_readPerson_117 (by first | assumption | exact hsh _ _ rfl) (by first | omega | (split <;> omega)) (by first | omega | (split <;> omega)) (by first | omega | (split <;> omega)) ?_
            refine j_iconst dX12_readPerson_118 ?_
            refine j_istore_n dX12_readPerson_119 (by decide) ?_
            skip
            obtain ⟨K, hK⟩ : ∃ K, K = jup (jup (jup (jup (jup (jup J 171 (12 + 13 * p + 0) be) 171 (12 + 13 * p + 1) 0) 171 (12 + 13 * p + 2) 0) 171 (12 + 13 * p + 3) 0) 171 (12 + 13 * p + 4) (-1)) 171 (12 + 13 * p + 5) 0 := ⟨_, rfl⟩
            rw [← hK]
            have hMK : Mt K B n (tkE B n q4) q4 := by rw [hK]; exact Mt_w (Mt_w (Mt_w (Mt_w (Mt_w (Mt_w hMJ)))))
            have hfK : FrY I K := by rw [hK]; exact FrY_w (FrY_w (FrY_w (FrY_w (FrY_w (FrY_w hf (by omega)) (by omega)) (by omega)) (by omega)) (by omega)) (by omega)
            have hKw : K 171 = wup (wup (wup (wup (wup (wup (wPn B w p q4 7) (12 + 13 * p + 0) be) (12 + 13 * p + 1) 0) (12 + 13 * p + 2) 0) (12 + 13 * p + 3) 0) (12 + 13 * p + 4) (-1)) (12 + 13 * p + 5) 0 := by rw [hK, jup_at, jup_at, jup_at, jup_at, jup_at, jup_at, hJw]
            rw [← hKw] at eq
            have key : ∀ (m : Nat) (z : Int) (L : Nat → Int → Int), z + m = 8 → 0 ≤ z → Mt L B n (tkE B n q4) q4 → FrY I L → L 171 = wZr (K 171) p z → jW G mX12_readPerson (d + 6) (rEI ((1, tkN B n q4, wPer B w be q4) : bR).1 sh F (bMd I B n (1, tkN B n q4, wPer B w be q4))) 120 [some (jR (some 170)), some (jI p), some (jI be), some (jI z)] [] (sh, L, F) 0 0 := by
              intro m
              induction m with
              | zero =>
                intro z L hz hz0 hML hfL hLw
                have ez : z = 8 := by omega
                subst ez
                have l0 : L 171 0 = p := by
                  rw [hLw, hKw]
                  unfold wZr
                  rw [if_neg (by omega), wup_ne _ _ (by omega), wup_ne _ _ (by omega), wup_ne _ _ (by omega), wup_ne _ _ (by omega), wup_ne _ _ (by omega), wup_ne _ _ (by omega)]
                  exact (if_neg (by omega)).trans hp
                refine j_iload_n dX12_readPerson_120 rfl ?_
                refine j_bipush dX12_readPerson_121 (by decide) ?_
                refine j_icmp_ge (tgt := 154) dX12_readPerson_123 rfl (by first | omega | (split <;> omega)) (by first | omega | (split <;> omega)) (fun c_123 => ?_) (fun c_123 => by exact absurd (by decide) c_123)
                refine j_aload_n dX12_readPerson_154 rfl ?_
                refine r_getS dX12_readPerson_155 flX12_13 (by first | assumption | exact hsh _ _ rfl) (fx_170_1 hfx) ?_
                refine j_iconst dX12_readPerson_158 ?_
                refine j_dup2 dX12_readPerson_159 trivial trivial ?_
                refine r_ialoadE dX12_readPerson_160 (by first | assumption | exact hsh _ _ rfl) (by first | omega | (split <;> omega)) (by first | omega | (split <;> omega)) l0 (fun b_160 => ?_)
                refine j_iconst dX12_readPerson_161 ?_
                refine j_iadd dX12_readPerson_162 ?_
                refine r_iastore dX12_readPerson_163 (by first | assumption | exact hsh _ _ rfl) (by first | omega | (split <;> omega)) (by first | omega | (split <;> omega)) (by first | omega | (split <;> omega)) ?_
                refine j_iconst dX12_readPerson_164 ?_
                refine j_zret dX12_readPerson_165 rfl (by omega) ?_
                exact rEI_of rfl (bMd_1 (FrY_w hfL (by decide)) (Mt_w hML) (by rw [jup_at, hLw]; exact eq))
              | succ m ih =>
                intro z L hz hz0 hML hfL hLw
                have ih2 := ih (z + 1) (jup (jup L 171 (116 + 8 * p + z) 0) 171 (116 + 8 * z + p) 0) (by omega) (by omega) (Mt_w (Mt_w hML)) (FrY_w (FrY_w hfL (by omega)) (by omega)) (by rw [jup_at, jup_at, hLw, wZr_s (by omega) (by omega)])
                refine j_iload_n dX12_readPerson_120 rfl ?_
                refine j_bipush dX12_readPerson_121 (by decide) ?_
                refine j_icmp_ge (tgt := 154) dX12_readPerson_123 rfl (by first | omega | (split <;> omega)) (by first | omega | (split <;> omega)) (fun c_123 => by exact absurd c_123 (by omega)) (fun c_123 => ?_)
                refine j_aload_n dX12_readPerson_126 rfl ?_
                refine r_getS dX12_readPerson_127 flX12_13 (by first | assumption | exact hsh _ _ rfl) (fx_170_1 hfx) ?_
                refine j_iload_n dX12_readPerson_130 rfl ?_
                refine j_iload_n dX12_readPerson_131 rfl ?_
                refine r_cs2I dX12_readPerson_132 csX12_71 (Nat.le_of_ble_eq_true rfl) (Nat.le_of_eq (Nat.zero_add _)) (Nat.le_of_eq (Nat.zero_add _)) (sm_owedAt) ?_
                refine j_iconst dX12_readPerson_135 ?_
                refine r_iastore dX12_readPerson_136 (by first | assumption | exact hsh _ _ rfl) (by first | omega | (split <;> omega)) (by first | omega | (split <;> omega)) (by first | omega | (split <;> omega)) ?_
                refine j_aload_n dX12_readPerson_137 rfl ?_
                refine r_getS dX12_readPerson_138 flX12_13 (by first | assumption | exact hsh _ _ rfl) (fx_170_1 hfx) ?_
                refine j_iload_n dX12_readPerson_141 rfl ?_
                refine j_iload_n dX12_readPerson_142 rfl ?_
                refine r_cs2I dX12_readPerson_143 csX12_71 (Nat.le_of_ble_eq_true rfl) (Nat.le_of_eq (Nat.zero_add _)) (Nat.le_of_eq (Nat.zero_add _)) (sm_owedAt) ?_
                refine j_iconst dX12_readPerson_146 ?_
                refine r_iastore dX12_readPerson_147 (by first | assumption | exact hsh _ _ rfl) (by first | omega | (split <;> omega)) (by first | omega | (split <;> omega)) (by first | omega | (split <;> omega)) ?_
                refine j_iinc dX12_readPerson_148 rfl (by decide) ?_
                refine j_goto (tgt := 120) dX12_readPerson_151 rfl ?_
                exact ih2
            exact key 8 0 K (by omega) (by omega) hMK hfK (wZr_0).symm
          refine j_aload_n dX12_readPerson_0 rfl ?_
          refine r_cv0I dX12_readPerson_1 cvX12_74 (by decide) (by first | assumption | exact hsh _ _ rfl) (Nat.le_of_ble_eq_true rfl) (Nat.le_of_eq (Nat.zero_add _)) (Nat.le_of_eq (Nat.zero_add _)) (sm_people hsh hfx) ?_
          rw [eP]
          refine j_istore_n dX12_readPerson_4 (by decide) ?_
          refine j_iload_n dX12_readPerson_5 rfl ?_
          refine j_bipush dX12_readPerson_6 (by decide) ?_
          refine j_icmp_ne (tgt := 13) dX12_readPerson_8 rfl (by first | omega | (split <;> omega)) (by first | omega | (split <;> omega)) (fun c_8 => ?_) (fun c_8 => by exact absurd (by omega) c_8)
          refine j_aload_n dX12_readPerson_13 rfl ?_
          refine j_ldcS dX12_readPerson_14 (t := 1) (by decide +kernel) ?_
          refine j_iconst dX12_readPerson_16 ?_
          refine j_bipush dX12_readPerson_17 (by decide) ?_
          refine r_cv3EI dX12_readPerson_19 cvX12_127 (by decide) (by first | assumption | exact hsh _ _ rfl) (Nat.le_of_ble_eq_true rfl) (Nat.le_of_eq (Nat.zero_add _)) (Nat.le_of_eq (Nat.zero_add _)) (mt_after1 hsh hfx hM (by decide) (by decide) (by decide) (by decide) h1 h2 rfl) (fun J hJ => ?_)
          refine j_istore_n dX12_readPerson_22 (by decide) ?_
          refine j_iload_n dX12_readPerson_23 rfl ?_
          refine j_if_ge (tgt := 29) dX12_readPerson_24 rfl (by first | omega | (split <;> omega)) (fun c_24 => ?_) (fun c_24 => by exact absurd (by omega) c_24)
          refine j_aload_n dX12_readPerson_29 rfl ?_
          refine r_cv0EV dX12_readPerson_30 cvX12_111 (by decide) (by first | assumption | exact hsh _ _ rfl) (Nat.le_of_ble_eq_true rfl) (Nat.le_of_eq (Nat.zero_add _)) (Nat.le_of_eq (Nat.zero_add _)) (mt_lettersQ (q := tkN B n (tkN B n (tkN B n q))) hsh hfx hJ.1 rfl) (fun K hK => ?_)
          have sw := mt_isWordQ (G := G) (d := d + 1) (F := F) hsh hfx hK.1 (by omega) (t := 2) (by decide)
          rw [if_pos h3] at sw
          have hM2 := hK.1
          rw [eE] at hM2
          have sp := mb_pains (G := G) (d := d + 3) (F := F) (w := w) (r := aPe w) hsh hfx hM2 ((FrX_171 hK.2).trans ((FrX_171 hJ.2).trans hw)) (by omega) hq4
          rw [if_pos h4, el, h4.2] at sp
          refine j_aload_n dX12_readPerson_33 rfl ?_
          refine j_ldcS dX12_readPerson_34 (t := 2) (by decide +kernel) ?_
          refine r_cv1I dX12_readPerson_36 cvX12_114 (by decide) (by first | assumption | exact hsh _ _ rfl) (Nat.le_of_ble_eq_true rfl) (Nat.le_of_eq (Nat.zero_add _)) (Nat.le_of_eq (Nat.zero_add _)) (sw) ?_
          refine j_if_eq (tgt := 50) dX12_readPerson_39 rfl (by first | omega | (split <;> omega)) (fun c_39 => by exact absurd c_39 (by decide)) (fun c_39 => ?_)
          refine j_aload_n dX12_readPerson_42 rfl ?_
          refine j_iload_n dX12_readPerson_43 rfl ?_
          refine r_cv1EI dX12_readPerson_44 cvX12_133 (by decide) (by first | assumption | exact hsh _ _ rfl) (Nat.le_of_ble_eq_true rfl) (Nat.le_of_eq (Nat.zero_add _)) (Nat.le_of_eq (Nat.zero_add _)) (sp) (fun L hL => ?_)
          refine j_if_ne (tgt := 52) dX12_readPerson_47 rfl (by first | omega | (split <;> omega)) (fun c_47 => ?_) (fun c_47 => by exact absurd c_47 (by decide))
          exact fin L hL.1 (FrY_tr (FrY_X (FrX_tr hJ.2 hK.2)) hL.2.1) hL.2.2
        · rw [if_neg (fun x => h4 ⟨x.1.1, x.2⟩)]
          refine j_aload_n dX12_readPerson_0 rfl ?_
          refine r_cv0I dX12_readPerson_1 cvX12_74 (by decide) (by first | assumption | exact hsh _ _ rfl) (Nat.le_of_ble_eq_true rfl) (Nat.le_of_eq (Nat.zero_add _)) (Nat.le_of_eq (Nat.zero_add _)) (sm_people hsh hfx) ?_
          rw [eP]
          refine j_istore_n dX12_readPerson_4 (by decide) ?_
          refine j_iload_n dX12_readPerson_5 rfl ?_
          refine j_bipush dX12_readPerson_6 (by decide) ?_
          refine j_icmp_ne (tgt := 13) dX12_readPerson_8 rfl (by first | omega | (split <;> omega)) (by first | omega | (split <;> omega)) (fun c_8 => ?_) (fun c_8 => by exact absurd (by omega) c_8)
          refine j_aload_n dX12_readPerson_13 rfl ?_
          refine j_ldcS dX12_readPerson_14 (t := 1) (by decide +kernel) ?_
          refine j_iconst dX12_readPerson_16 ?_
          refine j_bipush dX12_readPerson_17 (by decide) ?_
          refine r_cv3EI dX12_readPerson_19 cvX12_127 (by decide) (by first | assumption | exact hsh _ _ rfl) (Nat.le_of_ble_eq_true rfl) (Nat.le_of_eq (Nat.zero_add _)) (Nat.le_of_eq (Nat.zero_add _)) (mt_after1 hsh hfx hM (by decide) (by decide) (by decide) (by decide) h1 h2 rfl) (fun J hJ => ?_)
          refine j_istore_n dX12_readPerson_22 (by decide) ?_
          refine j_iload_n dX12_readPerson_23 rfl ?_
          refine j_if_ge (tgt := 29) dX12_readPerson_24 rfl (by first | omega | (split <;> omega)) (fun c_24 => ?_) (fun c_24 => by exact absurd (by omega) c_24)
          refine j_aload_n dX12_readPerson_29 rfl ?_
          refine r_cv0EV dX12_readPerson_30 cvX12_111 (by decide) (by first | assumption | exact hsh _ _ rfl) (Nat.le_of_ble_eq_true rfl) (Nat.le_of_eq (Nat.zero_add _)) (Nat.le_of_eq (Nat.zero_add _)) (mt_lettersQ (q := tkN B n (tkN B n (tkN B n q))) hsh hfx hJ.1 rfl) (fun K hK => ?_)
          have sw := mt_isWordQ (G := G) (d := d + 1) (F := F) hsh hfx hK.1 (by omega) (t := 2) (by decide)
          rw [if_pos h3] at sw
          have hM2 := hK.1
          rw [eE] at hM2
          have sp := mb_pains (G := G) (d := d + 3) (F := F) (w := w) (r := aPe w) hsh hfx hM2 ((FrX_171 hK.2).trans ((FrX_171 hJ.2).trans hw)) (by omega) hq4
          rw [if_neg h4] at sp
          refine j_aload_n dX12_readPerson_33 rfl ?_
          refine j_ldcS dX12_readPerson_34 (t := 2) (by decide +kernel) ?_
          refine r_cv1I dX12_readPerson_36 cvX12_114 (by decide) (by first | assumption | exact hsh _ _ rfl) (Nat.le_of_ble_eq_true rfl) (Nat.le_of_eq (Nat.zero_add _)) (Nat.le_of_eq (Nat.zero_add _)) (sw) ?_
          refine j_if_eq (tgt := 50) dX12_readPerson_39 rfl (by first | omega | (split <;> omega)) (fun c_39 => by exact absurd c_39 (by decide)) (fun c_39 => ?_)
          refine j_aload_n dX12_readPerson_42 rfl ?_
          refine j_iload_n dX12_readPerson_43 rfl ?_
          refine r_cv1EI dX12_readPerson_44 cvX12_133 (by decide) (by first | assumption | exact hsh _ _ rfl) (Nat.le_of_ble_eq_true rfl) (Nat.le_of_eq (Nat.zero_add _)) (Nat.le_of_eq (Nat.zero_add _)) (sp) (fun L hL => ?_)
          refine j_if_ne (tgt := 52) dX12_readPerson_47 rfl (by first | omega | (split <;> omega)) (fun c_47 => by exact absurd c_47 (by decide)) (fun c_47 => ?_)
          refine j_iconst dX12_readPerson_50 ?_
          refine j_zret dX12_readPerson_51 rfl (by omega) ?_
          exact rEI_of rfl (bMd_0 (FrY_tr (FrY_X (FrX_tr hJ.2 hK.2)) hL.2.1) hL.1)
      · rw [if_neg h3]
        refine j_aload_n dX12_readPerson_0 rfl ?_
        refine r_cv0I dX12_readPerson_1 cvX12_74 (by decide) (by first | assumption | exact hsh _ _ rfl) (Nat.le_of_ble_eq_true rfl) (Nat.le_of_eq (Nat.zero_add _)) (Nat.le_of_eq (Nat.zero_add _)) (sm_people hsh hfx) ?_
        rw [eP]
        refine j_istore_n dX12_readPerson_4 (by decide) ?_
        refine j_iload_n dX12_readPerson_5 rfl ?_
        refine j_bipush dX12_readPerson_6 (by decide) ?_
        refine j_icmp_ne (tgt := 13) dX12_readPerson_8 rfl (by first | omega | (split <;> omega)) (by first | omega | (split <;> omega)) (fun c_8 => ?_) (fun c_8 => by exact absurd (by omega) c_8)
        refine j_aload_n dX12_readPerson_13 rfl ?_
        refine j_ldcS dX12_readPerson_14 (t := 1) (by decide +kernel) ?_
        refine j_iconst dX12_readPerson_16 ?_
        refine j_bipush dX12_readPerson_17 (by decide) ?_
        refine r_cv3EI dX12_readPerson_19 cvX12_127 (by decide) (by first | assumption | exact hsh _ _ rfl) (Nat.le_of_ble_eq_true rfl) (Nat.le_of_eq (Nat.zero_add _)) (Nat.le_of_eq (Nat.zero_add _)) (mt_after1 hsh hfx hM (by decide) (by decide) (by decide) (by decide) h1 h2 rfl) (fun J hJ => ?_)
        refine j_istore_n dX12_readPerson_22 (by decide) ?_
        refine j_iload_n dX12_readPerson_23 rfl ?_
        refine j_if_ge (tgt := 29) dX12_readPerson_24 rfl (by first | omega | (split <;> omega)) (fun c_24 => ?_) (fun c_24 => by exact absurd (by omega) c_24)
        refine j_aload_n dX12_readPerson_29 rfl ?_
        refine r_cv0EV dX12_readPerson_30 cvX12_111 (by decide) (by first | assumption | exact hsh _ _ rfl) (Nat.le_of_ble_eq_true rfl) (Nat.le_of_eq (Nat.zero_add _)) (Nat.le_of_eq (Nat.zero_add _)) (mt_lettersQ (q := tkN B n (tkN B n (tkN B n q))) hsh hfx hJ.1 rfl) (fun K hK => ?_)
        have sw := mt_isWordQ (G := G) (d := d + 1) (F := F) hsh hfx hK.1 (by omega) (t := 2) (by decide)
        rw [if_neg h3] at sw
        refine j_aload_n dX12_readPerson_33 rfl ?_
        refine j_ldcS dX12_readPerson_34 (t := 2) (by decide +kernel) ?_
        refine r_cv1I dX12_readPerson_36 cvX12_114 (by decide) (by first | assumption | exact hsh _ _ rfl) (Nat.le_of_ble_eq_true rfl) (Nat.le_of_eq (Nat.zero_add _)) (Nat.le_of_eq (Nat.zero_add _)) (sw) ?_
        refine j_if_eq (tgt := 50) dX12_readPerson_39 rfl (by first | omega | (split <;> omega)) (fun c_39 => ?_) (fun c_39 => by exact absurd c_39 (by decide))
        refine j_iconst dX12_readPerson_50 ?_
        refine j_zret dX12_readPerson_51 rfl (by omega) ?_
        exact rEI_of rfl (bMd_0 (FrY_X (FrX_tr hJ.2 hK.2)) hK.1)
    · rw [if_neg h2]
      refine j_aload_n dX12_readPerson_0 rfl ?_
      refine r_cv0I dX12_readPerson_1 cvX12_74 (by decide) (by first | assumption | exact hsh _ _ rfl) (Nat.le_of_ble_eq_true rfl) (Nat.le_of_eq (Nat.zero_add _)) (Nat.le_of_eq (Nat.zero_add _)) (sm_people hsh hfx) ?_
      rw [eP]
      refine j_istore_n dX12_readPerson_4 (by decide) ?_
      refine j_iload_n dX12_readPerson_5 rfl ?_
      refine j_bipush dX12_readPerson_6 (by decide) ?_
      refine j_icmp_ne (tgt := 13) dX12_readPerson_8 rfl (by first | omega | (split <;> omega)) (by first | omega | (split <;> omega)) (fun c_8 => ?_) (fun c_8 => by exact absurd (by omega) c_8)
      refine j_aload_n dX12_readPerson_13 rfl ?_
      refine j_ldcS dX12_readPerson_14 (t := 1) (by decide +kernel) ?_
      refine j_iconst dX12_readPerson_16 ?_
      refine j_bipush dX12_readPerson_17 (by decide) ?_
      refine r_cv3EI dX12_readPerson_19 cvX12_127 (by decide) (by first | assumption | exact hsh _ _ rfl) (Nat.le_of_ble_eq_true rfl) (Nat.le_of_eq (Nat.zero_add _)) (Nat.le_of_eq (Nat.zero_add _)) (mt_after0 hsh hfx hM (by decide) (by decide) (by decide) (by decide) h1 h2 rfl) (fun J hJ => ?_)
      refine j_istore_n dX12_readPerson_22 (by decide) ?_
      refine j_iload_n dX12_readPerson_23 rfl ?_
      refine j_if_ge (tgt := 29) dX12_readPerson_24 rfl (by first | omega | (split <;> omega)) (fun c_24 => by exact absurd c_24 (by decide)) (fun c_24 => ?_)
      refine j_iconst dX12_readPerson_27 ?_
      refine j_zret dX12_readPerson_28 rfl (by omega) ?_
      obtain ⟨⟨x, hx⟩, hf⟩ := hJ
      exact rEI_of rfl (bMd_0 (FrY_X hf) hx)
  · rw [if_neg h1]
    refine j_aload_n dX12_readPerson_0 rfl ?_
    refine r_cv0I dX12_readPerson_1 cvX12_74 (by decide) (by first | assumption | exact hsh _ _ rfl) (Nat.le_of_ble_eq_true rfl) (Nat.le_of_eq (Nat.zero_add _)) (Nat.le_of_eq (Nat.zero_add _)) (sm_people hsh hfx) ?_
    rw [eP]
    refine j_istore_n dX12_readPerson_4 (by decide) ?_
    refine j_iload_n dX12_readPerson_5 rfl ?_
    refine j_bipush dX12_readPerson_6 (by decide) ?_
    refine j_icmp_ne (tgt := 13) dX12_readPerson_8 rfl (by first | omega | (split <;> omega)) (by first | omega | (split <;> omega)) (fun c_8 => ?_) (fun c_8 => by exact absurd (by omega) c_8)
    refine j_aload_n dX12_readPerson_13 rfl ?_
    refine j_ldcS dX12_readPerson_14 (t := 1) (by decide +kernel) ?_
    refine j_iconst dX12_readPerson_16 ?_
    refine j_bipush dX12_readPerson_17 (by decide) ?_
    refine r_cv3EI dX12_readPerson_19 cvX12_127 (by decide) (by first | assumption | exact hsh _ _ rfl) (Nat.le_of_ble_eq_true rfl) (Nat.le_of_eq (Nat.zero_add _)) (Nat.le_of_eq (Nat.zero_add _)) (mt_afterN hsh hfx hM (by decide) h1 rfl) (fun J hJ => ?_)
    refine j_istore_n dX12_readPerson_22 (by decide) ?_
    refine j_iload_n dX12_readPerson_23 rfl ?_
    refine j_if_ge (tgt := 29) dX12_readPerson_24 rfl (by first | omega | (split <;> omega)) (fun c_24 => by exact absurd c_24 (by decide)) (fun c_24 => ?_)
    refine j_iconst dX12_readPerson_27 ?_
    refine j_zret dX12_readPerson_28 rfl (by omega) ?_
    obtain ⟨⟨x, hx⟩, hf⟩ := hJ
    exact rEI_of rfl (bMd_0 (FrY_X hf) hx)
theorem mb_line (hsh : ShOK sh) (hfx : FxOK F) (hM : Mt I B n (lx B n 97 122 q) q) (hq : 0 ≤ q ∧ q ≤ n) (hw : I 171 = w) (h8 : 0 ≤ aPe w ∧ aPe w ≤ 8) (hA : WfA w) : jS G (d + 7) mX12_readBankLine [jR (some 170)] (sh, I, F) 0 0 (rEI (bLine B n w q).1 sh F (bMd I B n (bLine B n w q))) := by
  have sw := fun (t : Nat) (ht : t < 33) => mt_isWordQ (G := G) (d := d + 2) (F := F) hsh hfx hM hq (t := t) ht
  have s0 : ∀ t : Nat, t < 33 → ¬ vWd B n q t → jS G (d + 6) mX12_isWord [jR (some 170), jX (t + 1)] (sh, I, F) 0 0 (rI 0 (sh, I, F)) := fun t ht h => by have := sw t ht; rw [if_neg h] at this; exact this
  have s1 : ∀ t : Nat, t < 33 → vWd B n q t → jS G (d + 6) mX12_isWord [jR (some 170), jX (t + 1)] (sh, I, F) 0 0 (rI 1 (sh, I, F)) := fun t ht h => by have := sw t ht; rw [if_pos h] at this; exact this
  have hz := bLine_01 B n w q
  have hE : ∀ t : Nat, t < 33 → vWd B n q t → Mt I B n (tkE B n q) q := fun t ht h => by rw [← wd_E ht hq.2 h]; exact hM
  refine jS_go [some (jR (some 170))] (by decide +kernel) rfl (by simp [jone]) (Nat.le_of_ble_eq_true rfl) rfl (fun hok => ?_)
  rcases bLine_c B n w q with ⟨h, e⟩ | ⟨c, h, e⟩ | ⟨c, h, e⟩ | ⟨c, h, e⟩ | ⟨h, e⟩
  · rw [e] at hz ⊢
    refine j_aload_n dX12_readBankLine_0 rfl ?_
    refine j_ldcS dX12_readBankLine_1 (t := 0) (by decide +kernel) ?_
    refine r_cv1I dX12_readBankLine_3 cvX12_114 (by decide) (by first | assumption | exact hsh _ _ rfl) (Nat.le_of_ble_eq_true rfl) (Nat.le_of_eq (Nat.zero_add _)) (Nat.le_of_eq (Nat.zero_add _)) (s1 0 (by decide) h) ?_
    refine j_if_eq (tgt := 14) dX12_readBankLine_6 rfl (by first | omega | (split <;> omega)) (fun c_6 => by exact absurd c_6 (by decide)) (fun c_6 => ?_)
    refine j_aload_n dX12_readBankLine_9 rfl ?_
    refine r_cv0EI dX12_readBankLine_10 cvX12_143 (by decide) (by first | assumption | exact hsh _ _ rfl) (Nat.le_of_ble_eq_true rfl) (Nat.le_of_eq (Nat.zero_add _)) (Nat.le_of_eq (Nat.zero_add _)) (mb_person (d := d) hsh hfx (hE 0 (by decide) h) hq hw h8) (fun J hJ => ?_)
    refine j_zret dX12_readBankLine_13 rfl hz ?_
    exact rEI_of rfl hJ
  · rcases h with ⟨rfl, h⟩ | ⟨rfl, h⟩ | ⟨rfl, h⟩
    · rw [e] at hz ⊢
      refine j_aload_n dX12_readBankLine_0 rfl ?_
      refine j_ldcS dX12_readBankLine_1 (t := 0) (by decide +kernel) ?_
      refine r_cv1I dX12_readBankLine_3 cvX12_114 (by decide) (by first | assumption | exact hsh _ _ rfl) (Nat.le_of_ble_eq_true rfl) (Nat.le_of_eq (Nat.zero_add _)) (Nat.le_of_eq (Nat.zero_add _)) (s0 0 (by decide) (wd_one (by decide) (by decide) (by decide) h)) ?_
      refine j_if_eq (tgt := 14) dX12_readBankLine_6 rfl (by first | omega | (split <;> omega)) (fun c_6 => ?_) (fun c_6 => by exact absurd c_6 (by decide))
      refine j_aload_n dX12_readBankLine_14 rfl ?_
      refine j_ldcS dX12_readBankLine_15 (t := 6) (by decide +kernel) ?_
      refine r_cv1I dX12_readBankLine_17 cvX12_114 (by decide) (by first | assumption | exact hsh _ _ rfl) (Nat.le_of_ble_eq_true rfl) (Nat.le_of_eq (Nat.zero_add _)) (Nat.le_of_eq (Nat.zero_add _)) (s1 6 (by decide) h) ?_
      refine j_if_eq (tgt := 28) dX12_readBankLine_20 rfl (by first | omega | (split <;> omega)) (fun c_20 => by exact absurd c_20 (by decide)) (fun c_20 => ?_)
      refine j_aload_n dX12_readBankLine_23 rfl ?_
      refine r_cv0EI dX12_readBankLine_24 cvX12_149 (by decide) (by first | assumption | exact hsh _ _ rfl) (Nat.le_of_ble_eq_true rfl) (Nat.le_of_eq (Nat.zero_add _)) (Nat.le_of_eq (Nat.zero_add _)) (mb_account (d := d + 1) hsh hfx (hE 6 (by decide) h) hw h8) (fun J hJ => ?_)
      refine j_zret dX12_readBankLine_27 rfl hz ?_
      exact rEI_of rfl hJ
    · rw [e] at hz ⊢
      refine j_aload_n dX12_readBankLine_0 rfl ?_
      refine j_ldcS dX12_readBankLine_1 (t := 0) (by decide +kernel) ?_
      refine r_cv1I dX12_readBankLine_3 cvX12_114 (by decide) (by first | assumption | exact hsh _ _ rfl) (Nat.le_of_ble_eq_true rfl) (Nat.le_of_eq (Nat.zero_add _)) (Nat.le_of_eq (Nat.zero_add _)) (s0 0 (by decide) (wd_one (by decide) (by decide) (by decide) h)) ?_
      refine j_if_eq (tgt := 14) dX12_readBankLine_6 rfl (by first | omega | (split <;> omega)) (fun c_6 => ?_) (fun c_6 => by exact absurd c_6 (by decide))
      refine j_aload_n dX12_readBankLine_14 rfl ?_
      refine j_ldcS dX12_readBankLine_15 (t := 6) (by decide +kernel) ?_
      refine r_cv1I dX12_readBankLine_17 cvX12_114 (by decide) (by first | assumption | exact hsh _ _ rfl) (Nat.le_of_ble_eq_true rfl) (Nat.le_of_eq (Nat.zero_add _)) (Nat.le_of_eq (Nat.zero_add _)) (s0 6 (by decide) (wd_one (by decide) (by decide) (by decide) h)) ?_
      refine j_if_eq (tgt := 28) dX12_readBankLine_20 rfl (by first | omega | (split <;> omega)) (fun c_20 => ?_) (fun c_20 => by exact absurd c_20 (by decide))
      refine j_aload_n dX12_readBankLine_28 rfl ?_
      refine j_ldcS dX12_readBankLine_29 (t := 3) (by decide +kernel) ?_
      refine r_cv1I dX12_readBankLine_31 cvX12_114 (by decide) (by first | assumption | exact hsh _ _ rfl) (Nat.le_of_ble_eq_true rfl) (Nat.le_of_eq (Nat.zero_add _)) (Nat.le_of_eq (Nat.zero_add _)) (s0 3 (by decide) (wd_one (by decide) (by decide) (by decide) h)) ?_
      refine j_if_eq (tgt := 43) dX12_readBankLine_34 rfl (by first | omega | (split <;> omega)) (fun c_34 => ?_) (fun c_34 => by exact absurd c_34 (by decide))
      refine j_aload_n dX12_readBankLine_43 rfl ?_
      refine j_ldcS dX12_readBankLine_44 (t := 4) (by decide +kernel) ?_
      refine r_cv1I dX12_readBankLine_46 cvX12_114 (by decide) (by first | assumption | exact hsh _ _ rfl) (Nat.le_of_ble_eq_true rfl) (Nat.le_of_eq (Nat.zero_add _)) (Nat.le_of_eq (Nat.zero_add _)) (s0 4 (by decide) (wd_one (by decide) (by decide) (by decide) h)) ?_
      refine j_if_eq (tgt := 58) dX12_readBankLine_49 rfl (by first | omega | (split <;> omega)) (fun c_49 => ?_) (fun c_49 => by exact absurd c_49 (by decide))
      refine j_aload_n dX12_readBankLine_58 rfl ?_
      refine j_ldcS dX12_readBankLine_59 (t := 5) (by decide +kernel) ?_
      refine r_cv1I dX12_readBankLine_61 cvX12_114 (by decide) (by first | assumption | exact hsh _ _ rfl) (Nat.le_of_ble_eq_true rfl) (Nat.le_of_eq (Nat.zero_add _)) (Nat.le_of_eq (Nat.zero_add _)) (s0 5 (by decide) (wd_one (by decide) (by decide) (by decide) h)) ?_
      refine j_if_eq (tgt := 74) dX12_readBankLine_64 rfl (by first | omega | (split <;> omega)) (fun c_64 => ?_) (fun c_64 => by exact absurd c_64 (by decide))
      refine j_aload_n dX12_readBankLine_74 rfl ?_
      refine j_ldcS dX12_readBankLine_75 (t := 7) (by decide +kernel) ?_
      refine r_cv1I dX12_readBankLine_77 cvX12_114 (by decide) (by first | assumption | exact hsh _ _ rfl) (Nat.le_of_ble_eq_true rfl) (Nat.le_of_eq (Nat.zero_add _)) (Nat.le_of_eq (Nat.zero_add _)) (s1 7 (by decide) h) ?_
      refine j_if_eq (tgt := 88) dX12_readBankLine_80 rfl (by first | omega | (split <;> omega)) (fun c_80 => by exact absurd c_80 (by decide)) (fun c_80 => ?_)
      refine j_aload_n dX12_readBankLine_83 rfl ?_
      refine r_cv0EI dX12_readBankLine_84 cvX12_163 (by decide) (by first | assumption | exact hsh _ _ rfl) (Nat.le_of_ble_eq_true rfl) (Nat.le_of_eq (Nat.zero_add _)) (Nat.le_of_eq (Nat.zero_add _)) (mb_forged (d := d + 1) hsh hfx (hE 7 (by decide) h) hw h8 hA) (fun J hJ => ?_)
      refine j_zret dX12_readBankLine_87 rfl hz ?_
      exact rEI_of rfl hJ
    · rw [e] at hz ⊢
      refine j_aload_n dX12_readBankLine_0 rfl ?_
      refine j_ldcS dX12_readBankLine_1 (t := 0) (by decide +kernel) ?_
      refine r_cv1I dX12_readBankLine_3 cvX12_114 (by decide) (by first | assumption | exact hsh _ _ rfl) (Nat.le_of_ble_eq_true rfl) (Nat.le_of_eq (Nat.zero_add _)) (Nat.le_of_eq (Nat.zero_add _)) (s0 0 (by decide) (wd_one (by decide) (by decide) (by decide) h)) ?_
      refine j_if_eq (tgt := 14) dX12_readBankLine_6 rfl (by first | omega | (split <;> omega)) (fun c_6 => ?_) (fun c_6 => by exact absurd c_6 (by decide))
      refine j_aload_n dX12_readBankLine_14 rfl ?_
      refine j_ldcS dX12_readBankLine_15 (t := 6) (by decide +kernel) ?_
      refine r_cv1I dX12_readBankLine_17 cvX12_114 (by decide) (by first | assumption | exact hsh _ _ rfl) (Nat.le_of_ble_eq_true rfl) (Nat.le_of_eq (Nat.zero_add _)) (Nat.le_of_eq (Nat.zero_add _)) (s0 6 (by decide) (wd_one (by decide) (by decide) (by decide) h)) ?_
      refine j_if_eq (tgt := 28) dX12_readBankLine_20 rfl (by first | omega | (split <;> omega)) (fun c_20 => ?_) (fun c_20 => by exact absurd c_20 (by decide))
      refine j_aload_n dX12_readBankLine_28 rfl ?_
      refine j_ldcS dX12_readBankLine_29 (t := 3) (by decide +kernel) ?_
      refine r_cv1I dX12_readBankLine_31 cvX12_114 (by decide) (by first | assumption | exact hsh _ _ rfl) (Nat.le_of_ble_eq_true rfl) (Nat.le_of_eq (Nat.zero_add _)) (Nat.le_of_eq (Nat.zero_add _)) (s0 3 (by decide) (wd_one (by decide) (by decide) (by decide) h)) ?_
      refine j_if_eq (tgt := 43) dX12_readBankLine_34 rfl (by first | omega | (split <;> omega)) (fun c_34 => ?_) (fun c_34 => by exact absurd c_34 (by decide))
      refine j_aload_n dX12_readBankLine_43 rfl ?_
      refine j_ldcS dX12_readBankLine_44 (t := 4) (by decide +kernel) ?_
      refine r_cv1I dX12_readBankLine_46 cvX12_114 (by decide) (by first | assumption | exact hsh _ _ rfl) (Nat.le_of_ble_eq_true rfl) (Nat.le_of_eq (Nat.zero_add _)) (Nat.le_of_eq (Nat.zero_add _)) (s0 4 (by decide) (wd_one (by decide) (by decide) (by decide) h)) ?_
      refine j_if_eq (tgt := 58) dX12_readBankLine_49 rfl (by first | omega | (split <;> omega)) (fun c_49 => ?_) (fun c_49 => by exact absurd c_49 (by decide))
      refine j_aload_n dX12_readBankLine_58 rfl ?_
      refine j_ldcS dX12_readBankLine_59 (t := 5) (by decide +kernel) ?_
      refine r_cv1I dX12_readBankLine_61 cvX12_114 (by decide) (by first | assumption | exact hsh _ _ rfl) (Nat.le_of_ble_eq_true rfl) (Nat.le_of_eq (Nat.zero_add _)) (Nat.le_of_eq (Nat.zero_add _)) (s0 5 (by decide) (wd_one (by decide) (by decide) (by decide) h)) ?_
      refine j_if_eq (tgt := 74) dX12_readBankLine_64 rfl (by first | omega | (split <;> omega)) (fun c_64 => ?_) (fun c_64 => by exact absurd c_64 (by decide))
      refine j_aload_n dX12_readBankLine_74 rfl ?_
      refine j_ldcS dX12_readBankLine_75 (t := 7) (by decide +kernel) ?_
      refine r_cv1I dX12_readBankLine_77 cvX12_114 (by decide) (by first | assumption | exact hsh _ _ rfl) (Nat.le_of_ble_eq_true rfl) (Nat.le_of_eq (Nat.zero_add _)) (Nat.le_of_eq (Nat.zero_add _)) (s0 7 (by decide) (wd_one (by decide) (by decide) (by decide) h)) ?_
      refine j_if_eq (tgt := 88) dX12_readBankLine_80 rfl (by first | omega | (split <;> omega)) (fun c_80 => ?_) (fun c_80 => by exact absurd c_80 (by decide))
      refine j_aload_n dX12_readBankLine_88 rfl ?_
      refine j_ldcS dX12_readBankLine_89 (t := 8) (by decide +kernel) ?_
      refine r_cv1I dX12_readBankLine_91 cvX12_114 (by decide) (by first | assumption | exact hsh _ _ rfl) (Nat.le_of_ble_eq_true rfl) (Nat.le_of_eq (Nat.zero_add _)) (Nat.le_of_eq (Nat.zero_add _)) (s1 8 (by decide) h) ?_
      refine j_if_eq (tgt := 102) dX12_readBankLine_94 rfl (by first | omega | (split <;> omega)) (fun c_94 => by exact absurd c_94 (by decide)) (fun c_94 => ?_)
      refine j_aload_n dX12_readBankLine_97 rfl ?_
      refine r_cv0EI dX12_readBankLine_98 cvX12_168 (by decide) (by first | assumption | exact hsh _ _ rfl) (Nat.le_of_ble_eq_true rfl) (Nat.le_of_eq (Nat.zero_add _)) (Nat.le_of_eq (Nat.zero_add _)) (mb_dead (d := d + 1) hsh hfx (hE 8 (by decide) h) hw h8) (fun J hJ => ?_)
      refine j_zret dX12_readBankLine_101 rfl hz ?_
      exact rEI_of rfl hJ
  · rcases h with ⟨rfl, h⟩ | ⟨rfl, h⟩ | ⟨rfl, h⟩
    · rw [e] at hz ⊢
      refine j_aload_n dX12_readBankLine_0 rfl ?_
      refine j_ldcS dX12_readBankLine_1 (t := 0) (by decide +kernel) ?_
      refine r_cv1I dX12_readBankLine_3 cvX12_114 (by decide) (by first | assumption | exact hsh _ _ rfl) (Nat.le_of_ble_eq_true rfl) (Nat.le_of_eq (Nat.zero_add _)) (Nat.le_of_eq (Nat.zero_add _)) (s0 0 (by decide) (wd_one (by decide) (by decide) (by decide) h)) ?_
      refine j_if_eq (tgt := 14) dX12_readBankLine_6 rfl (by first | omega | (split <;> omega)) (fun c_6 => ?_) (fun c_6 => by exact absurd c_6 (by decide))
      refine j_aload_n dX12_readBankLine_14 rfl ?_
      refine j_ldcS dX12_readBankLine_15 (t := 6) (by decide +kernel) ?_
      refine r_cv1I dX12_readBankLine_17 cvX12_114 (by decide) (by first | assumption | exact hsh _ _ rfl) (Nat.le_of_ble_eq_true rfl) (Nat.le_of_eq (Nat.zero_add _)) (Nat.le_of_eq (Nat.zero_add _)) (s0 6 (by decide) (wd_one (by decide) (by decide) (by decide) h)) ?_
      refine j_if_eq (tgt := 28) dX12_readBankLine_20 rfl (by first | omega | (split <;> omega)) (fun c_20 => ?_) (fun c_20 => by exact absurd c_20 (by decide))
      refine j_aload_n dX12_readBankLine_28 rfl ?_
      refine j_ldcS dX12_readBankLine_29 (t := 3) (by decide +kernel) ?_
      refine r_cv1I dX12_readBankLine_31 cvX12_114 (by decide) (by first | assumption | exact hsh _ _ rfl) (Nat.le_of_ble_eq_true rfl) (Nat.le_of_eq (Nat.zero_add _)) (Nat.le_of_eq (Nat.zero_add _)) (s1 3 (by decide) h) ?_
      refine j_if_eq (tgt := 43) dX12_readBankLine_34 rfl (by first | omega | (split <;> omega)) (fun c_34 => by exact absurd c_34 (by decide)) (fun c_34 => ?_)
      refine j_aload_n dX12_readBankLine_37 rfl ?_
      refine j_iconst dX12_readBankLine_38 ?_
      refine r_cv1EI dX12_readBankLine_39 cvX12_154 (by decide) (by first | assumption | exact hsh _ _ rfl) (Nat.le_of_ble_eq_true rfl) (Nat.le_of_eq (Nat.zero_add _)) (Nat.le_of_eq (Nat.zero_add _)) (mb_two (d := d + 1) (c' := 4) hsh hfx (hE 3 (by decide) h) hw h8 (by omega)) (fun J hJ => ?_)
      refine j_zret dX12_readBankLine_42 rfl hz ?_
      exact rEI_of rfl hJ
    · rw [e] at hz ⊢
      refine j_aload_n dX12_readBankLine_0 rfl ?_
      refine j_ldcS dX12_readBankLine_1 (t := 0) (by decide +kernel) ?_
      refine r_cv1I dX12_readBankLine_3 cvX12_114 (by decide) (by first | assumption | exact hsh _ _ rfl) (Nat.le_of_ble_eq_true rfl) (Nat.le_of_eq (Nat.zero_add _)) (Nat.le_of_eq (Nat.zero_add _)) (s0 0 (by decide) (wd_one (by decide) (by decide) (by decide) h)) ?_
      refine j_if_eq (tgt := 14) dX12_readBankLine_6 rfl (by first | omega | (split <;> omega)) (fun c_6 => ?_) (fun c_6 => by exact absurd c_6 (by decide))
      refine j_aload_n dX12_readBankLine_14 rfl ?_
      refine j_ldcS dX12_readBankLine_15 (t := 6) (by decide +kernel) ?_
      refine r_cv1I dX12_readBankLine_17 cvX12_114 (by decide) (by first | assumption | exact hsh _ _ rfl) (Nat.le_of_ble_eq_true rfl) (Nat.le_of_eq (Nat.zero_add _)) (Nat.le_of_eq (Nat.zero_add _)) (s0 6 (by decide) (wd_one (by decide) (by decide) (by decide) h)) ?_
      refine j_if_eq (tgt := 28) dX12_readBankLine_20 rfl (by first | omega | (split <;> omega)) (fun c_20 => ?_) (fun c_20 => by exact absurd c_20 (by decide))
      refine j_aload_n dX12_readBankLine_28 rfl ?_
      refine j_ldcS dX12_readBankLine_29 (t := 3) (by decide +kernel) ?_
      refine r_cv1I dX12_readBankLine_31 cvX12_114 (by decide) (by first | assumption | exact hsh _ _ rfl) (Nat.le_of_ble_eq_true rfl) (Nat.le_of_eq (Nat.zero_add _)) (Nat.le_of_eq (Nat.zero_add _)) (s0 3 (by decide) (wd_one (by decide) (by decide) (by decide) h)) ?_
      refine j_if_eq (tgt := 43) dX12_readBankLine_34 rfl (by first | omega | (split <;> omega)) (fun c_34 => ?_) (fun c_34 => by exact absurd c_34 (by decide))
      refine j_aload_n dX12_readBankLine_43 rfl ?_
      refine j_ldcS dX12_readBankLine_44 (t := 4) (by decide +kernel) ?_
      refine r_cv1I dX12_readBankLine_46 cvX12_114 (by decide) (by first | assumption | exact hsh _ _ rfl) (Nat.le_of_ble_eq_true rfl) (Nat.le_of_eq (Nat.zero_add _)) (Nat.le_of_eq (Nat.zero_add _)) (s1 4 (by decide) h) ?_
      refine j_if_eq (tgt := 58) dX12_readBankLine_49 rfl (by first | omega | (split <;> omega)) (fun c_49 => by exact absurd c_49 (by decide)) (fun c_49 => ?_)
      refine j_aload_n dX12_readBankLine_52 rfl ?_
      refine j_iconst dX12_readBankLine_53 ?_
      refine r_cv1EI dX12_readBankLine_54 cvX12_154 (by decide) (by first | assumption | exact hsh _ _ rfl) (Nat.le_of_ble_eq_true rfl) (Nat.le_of_eq (Nat.zero_add _)) (Nat.le_of_eq (Nat.zero_add _)) (mb_two (d := d + 1) (c' := 5) hsh hfx (hE 4 (by decide) h) hw h8 (by omega)) (fun J hJ => ?_)
      refine j_zret dX12_readBankLine_57 rfl hz ?_
      exact rEI_of rfl hJ
    · rw [e] at hz ⊢
      refine j_aload_n dX12_readBankLine_0 rfl ?_
      refine j_ldcS dX12_readBankLine_1 (t := 0) (by decide +kernel) ?_
      refine r_cv1I dX12_readBankLine_3 cvX12_114 (by decide) (by first | assumption | exact hsh _ _ rfl) (Nat.le_of_ble_eq_true rfl) (Nat.le_of_eq (Nat.zero_add _)) (Nat.le_of_eq (Nat.zero_add _)) (s0 0 (by decide) (wd_one (by decide) (by decide) (by decide) h)) ?_
      refine j_if_eq (tgt := 14) dX12_readBankLine_6 rfl (by first | omega | (split <;> omega)) (fun c_6 => ?_) (fun c_6 => by exact absurd c_6 (by decide))
      refine j_aload_n dX12_readBankLine_14 rfl ?_
      refine j_ldcS dX12_readBankLine_15 (t := 6) (by decide +kernel) ?_
      refine r_cv1I dX12_readBankLine_17 cvX12_114 (by decide) (by first | assumption | exact hsh _ _ rfl) (Nat.le_of_ble_eq_true rfl) (Nat.le_of_eq (Nat.zero_add _)) (Nat.le_of_eq (Nat.zero_add _)) (s0 6 (by decide) (wd_one (by decide) (by decide) (by decide) h)) ?_
      refine j_if_eq (tgt := 28) dX12_readBankLine_20 rfl (by first | omega | (split <;> omega)) (fun c_20 => ?_) (fun c_20 => by exact absurd c_20 (by decide))
      refine j_aload_n dX12_readBankLine_28 rfl ?_
      refine j_ldcS dX12_readBankLine_29 (t := 3) (by decide +kernel) ?_
      refine r_cv1I dX12_readBankLine_31 cvX12_114 (by decide) (by first | assumption | exact hsh _ _ rfl) (Nat.le_of_ble_eq_true rfl) (Nat.le_of_eq (Nat.zero_add _)) (Nat.le_of_eq (Nat.zero_add _)) (s0 3 (by decide) (wd_one (by decide) (by decide) (by decide) h)) ?_
      refine j_if_eq (tgt := 43) dX12_readBankLine_34 rfl (by first | omega | (split <;> omega)) (fun c_34 => ?_) (fun c_34 => by exact absurd c_34 (by decide))
      refine j_aload_n dX12_readBankLine_43 rfl ?_
      refine j_ldcS dX12_readBankLine_44 (t := 4) (by decide +kernel) ?_
      refine r_cv1I dX12_readBankLine_46 cvX12_114 (by decide) (by first | assumption | exact hsh _ _ rfl) (Nat.le_of_ble_eq_true rfl) (Nat.le_of_eq (Nat.zero_add _)) (Nat.le_of_eq (Nat.zero_add _)) (s0 4 (by decide) (wd_one (by decide) (by decide) (by decide) h)) ?_
      refine j_if_eq (tgt := 58) dX12_readBankLine_49 rfl (by first | omega | (split <;> omega)) (fun c_49 => ?_) (fun c_49 => by exact absurd c_49 (by decide))
      refine j_aload_n dX12_readBankLine_58 rfl ?_
      refine j_ldcS dX12_readBankLine_59 (t := 5) (by decide +kernel) ?_
      refine r_cv1I dX12_readBankLine_61 cvX12_114 (by decide) (by first | assumption | exact hsh _ _ rfl) (Nat.le_of_ble_eq_true rfl) (Nat.le_of_eq (Nat.zero_add _)) (Nat.le_of_eq (Nat.zero_add _)) (s1 5 (by decide) h) ?_
      refine j_if_eq (tgt := 74) dX12_readBankLine_64 rfl (by first | omega | (split <;> omega)) (fun c_64 => by exact absurd c_64 (by decide)) (fun c_64 => ?_)
      refine j_aload_n dX12_readBankLine_67 rfl ?_
      refine j_bipush dX12_readBankLine_68 (by decide) ?_
      refine r_cv1EI dX12_readBankLine_70 cvX12_154 (by decide) (by first | assumption | exact hsh _ _ rfl) (Nat.le_of_ble_eq_true rfl) (Nat.le_of_eq (Nat.zero_add _)) (Nat.le_of_eq (Nat.zero_add _)) (mb_two (d := d + 1) (c' := 0) hsh hfx (hE 5 (by decide) h) hw h8 (by omega)) (fun J hJ => ?_)
      refine j_zret dX12_readBankLine_73 rfl hz ?_
      exact rEI_of rfl hJ
  · rcases h with ⟨rfl, h⟩ | ⟨rfl, h⟩ | ⟨rfl, h⟩ | ⟨rfl, h⟩
    · rw [e] at hz ⊢
      refine j_aload_n dX12_readBankLine_0 rfl ?_
      refine j_ldcS dX12_readBankLine_1 (t := 0) (by decide +kernel) ?_
      refine r_cv1I dX12_readBankLine_3 cvX12_114 (by decide) (by first | assumption | exact hsh _ _ rfl) (Nat.le_of_ble_eq_true rfl) (Nat.le_of_eq (Nat.zero_add _)) (Nat.le_of_eq (Nat.zero_add _)) (s0 0 (by decide) (wd_one (by decide) (by decide) (by decide) h)) ?_
      refine j_if_eq (tgt := 14) dX12_readBankLine_6 rfl (by first | omega | (split <;> omega)) (fun c_6 => ?_) (fun c_6 => by exact absurd c_6 (by decide))
      refine j_aload_n dX12_readBankLine_14 rfl ?_
      refine j_ldcS dX12_readBankLine_15 (t := 6) (by decide +kernel) ?_
      refine r_cv1I dX12_readBankLine_17 cvX12_114 (by decide) (by first | assumption | exact hsh _ _ rfl) (Nat.le_of_ble_eq_true rfl) (Nat.le_of_eq (Nat.zero_add _)) (Nat.le_of_eq (Nat.zero_add _)) (s0 6 (by decide) (wd_one (by decide) (by decide) (by decide) h)) ?_
      refine j_if_eq (tgt := 28) dX12_readBankLine_20 rfl (by first | omega | (split <;> omega)) (fun c_20 => ?_) (fun c_20 => by exact absurd c_20 (by decide))
      refine j_aload_n dX12_readBankLine_28 rfl ?_
      refine j_ldcS dX12_readBankLine_29 (t := 3) (by decide +kernel) ?_
      refine r_cv1I dX12_readBankLine_31 cvX12_114 (by decide) (by first | assumption | exact hsh _ _ rfl) (Nat.le_of_ble_eq_true rfl) (Nat.le_of_eq (Nat.zero_add _)) (Nat.le_of_eq (Nat.zero_add _)) (s0 3 (by decide) (wd_one (by decide) (by decide) (by decide) h)) ?_
      refine j_if_eq (tgt := 43) dX12_readBankLine_34 rfl (by first | omega | (split <;> omega)) (fun c_34 => ?_) (fun c_34 => by exact absurd c_34 (by decide))
      refine j_aload_n dX12_readBankLine_43 rfl ?_
      refine j_ldcS dX12_readBankLine_44 (t := 4) (by decide +kernel) ?_
      refine r_cv1I dX12_readBankLine_46 cvX12_114 (by decide) (by first | assumption | exact hsh _ _ rfl) (Nat.le_of_ble_eq_true rfl) (Nat.le_of_eq (Nat.zero_add _)) (Nat.le_of_eq (Nat.zero_add _)) (s0 4 (by decide) (wd_one (by decide) (by decide) (by decide) h)) ?_
      refine j_if_eq (tgt := 58) dX12_readBankLine_49 rfl (by first | omega | (split <;> omega)) (fun c_49 => ?_) (fun c_49 => by exact absurd c_49 (by decide))
      refine j_aload_n dX12_readBankLine_58 rfl ?_
      refine j_ldcS dX12_readBankLine_59 (t := 5) (by decide +kernel) ?_
      refine r_cv1I dX12_readBankLine_61 cvX12_114 (by decide) (by first | assumption | exact hsh _ _ rfl) (Nat.le_of_ble_eq_true rfl) (Nat.le_of_eq (Nat.zero_add _)) (Nat.le_of_eq (Nat.zero_add _)) (s0 5 (by decide) (wd_one (by decide) (by decide) (by decide) h)) ?_
      refine j_if_eq (tgt := 74) dX12_readBankLine_64 rfl (by first | omega | (split <;> omega)) (fun c_64 => ?_) (fun c_64 => by exact absurd c_64 (by decide))
      refine j_aload_n dX12_readBankLine_74 rfl ?_
      refine j_ldcS dX12_readBankLine_75 (t := 7) (by decide +kernel) ?_
      refine r_cv1I dX12_readBankLine_77 cvX12_114 (by decide) (by first | assumption | exact hsh _ _ rfl) (Nat.le_of_ble_eq_true rfl) (Nat.le_of_eq (Nat.zero_add _)) (Nat.le_of_eq (Nat.zero_add _)) (s0 7 (by decide) (wd_one (by decide) (by decide) (by decide) h)) ?_
      refine j_if_eq (tgt := 88) dX12_readBankLine_80 rfl (by first | omega | (split <;> omega)) (fun c_80 => ?_) (fun c_80 => by exact absurd c_80 (by decide))
      refine j_aload_n dX12_readBankLine_88 rfl ?_
      refine j_ldcS dX12_readBankLine_89 (t := 8) (by decide +kernel) ?_
      refine r_cv1I dX12_readBankLine_91 cvX12_114 (by decide) (by first | assumption | exact hsh _ _ rfl) (Nat.le_of_ble_eq_true rfl) (Nat.le_of_eq (Nat.zero_add _)) (Nat.le_of_eq (Nat.zero_add _)) (s0 8 (by decide) (wd_one (by decide) (by decide) (by decide) h)) ?_
      refine j_if_eq (tgt := 102) dX12_readBankLine_94 rfl (by first | omega | (split <;> omega)) (fun c_94 => ?_) (fun c_94 => by exact absurd c_94 (by decide))
      refine j_aload_n dX12_readBankLine_102 rfl ?_
      refine j_ldcS dX12_readBankLine_103 (t := 9) (by decide +kernel) ?_
      refine r_cv1I dX12_readBankLine_105 cvX12_114 (by decide) (by first | assumption | exact hsh _ _ rfl) (Nat.le_of_ble_eq_true rfl) (Nat.le_of_eq (Nat.zero_add _)) (Nat.le_of_eq (Nat.zero_add _)) (s1 9 (by decide) h) ?_
      refine j_if_eq (tgt := 119) dX12_readBankLine_108 rfl (by first | omega | (split <;> omega)) (fun c_108 => by exact absurd c_108 (by decide)) (fun c_108 => ?_)
      refine j_aload_n dX12_readBankLine_111 rfl ?_
      refine j_iconst dX12_readBankLine_112 ?_
      refine j_ldc (n := 99999) dX12_readBankLine_113 kcX12_140 ?_
      refine r_cv2EI dX12_readBankLine_115 cvX12_173 (by decide) (by first | assumption | exact hsh _ _ rfl) (Nat.le_of_ble_eq_true rfl) (Nat.le_of_eq (Nat.zero_add _)) (Nat.le_of_eq (Nat.zero_add _)) (mb_number (d := d + 2) (c := 4) hsh hfx (hE 9 (by decide) h) hw (by omega)) (fun J hJ => ?_)
      refine j_zret dX12_readBankLine_118 rfl hz ?_
      exact rEI_of rfl hJ
    · rw [e] at hz ⊢
      refine j_aload_n dX12_readBankLine_0 rfl ?_
      refine j_ldcS dX12_readBankLine_1 (t := 0) (by decide +kernel) ?_
      refine r_cv1I dX12_readBankLine_3 cvX12_114 (by decide) (by first | assumption | exact hsh _ _ rfl) (Nat.le_of_ble_eq_true rfl) (Nat.le_of_eq (Nat.zero_add _)) (Nat.le_of_eq (Nat.zero_add _)) (s0 0 (by decide) (wd_one (by decide) (by decide) (by decide) h)) ?_
      refine j_if_eq (tgt := 14) dX12_readBankLine_6 rfl (by first | omega | (split <;> omega)) (fun c_6 => ?_) (fun c_6 => by exact absurd c_6 (by decide))
      refine j_aload_n dX12_readBankLine_14 rfl ?_
      refine j_ldcS dX12_readBankLine_15 (t := 6) (by decide +kernel) ?_
      refine r_cv1I dX12_readBankLine_17 cvX12_114 (by decide) (by first | assumption | exact hsh _ _ rfl) (Nat.le_of_ble_eq_true rfl) (Nat.le_of_eq (Nat.zero_add _)) (Nat.le_of_eq (Nat.zero_add _)) (s0 6 (by decide) (wd_one (by decide) (by decide) (by decide) h)) ?_
      refine j_if_eq (tgt := 28) dX12_readBankLine_20 rfl (by first | omega | (split <;> omega)) (fun c_20 => ?_) (fun c_20 => by exact absurd c_20 (by decide))
      refine j_aload_n dX12_readBankLine_28 rfl ?_
      refine j_ldcS dX12_readBankLine_29 (t := 3) (by decide +kernel) ?_
      refine r_cv1I dX12_readBankLine_31 cvX12_114 (by decide) (by first | assumption | exact hsh _ _ rfl) (Nat.le_of_ble_eq_true rfl) (Nat.le_of_eq (Nat.zero_add _)) (Nat.le_of_eq (Nat.zero_add _)) (s0 3 (by decide) (wd_one (by decide) (by decide) (by decide) h)) ?_
      refine j_if_eq (tgt := 43) dX12_readBankLine_34 rfl (by first | omega | (split <;> omega)) (fun c_34 => ?_) (fun c_34 => by exact absurd c_34 (by decide))
      refine j_aload_n dX12_readBankLine_43 rfl ?_
      refine j_ldcS dX12_readBankLine_44 (t := 4) (by decide +kernel) ?_
      refine r_cv1I dX12_readBankLine_46 cvX12_114 (by decide) (by first | assumption | exact hsh _ _ rfl) (Nat.le_of_ble_eq_true rfl) (Nat.le_of_eq (Nat.zero_add _)) (Nat.le_of_eq (Nat.zero_add _)) (s0 4 (by decide) (wd_one (by decide) (by decide) (by decide) h)) ?_
      refine j_if_eq (tgt := 58) dX12_readBankLine_49 rfl (by first | omega | (split <;> omega)) (fun c_49 => ?_) (fun c_49 => by exact absurd c_49 (by decide))
      refine j_aload_n dX12_readBankLine_58 rfl ?_
      refine j_ldcS dX12_readBankLine_59 (t := 5) (by decide +kernel) ?_
      refine r_cv1I dX12_readBankLine_61 cvX12_114 (by decide) (by first | assumption | exact hsh _ _ rfl) (Nat.le_of_ble_eq_true rfl) (Nat.le_of_eq (Nat.zero_add _)) (Nat.le_of_eq (Nat.zero_add _)) (s0 5 (by decide) (wd_one (by decide) (by decide) (by decide) h)) ?_
      refine j_if_eq (tgt := 74) dX12_readBankLine_64 rfl (by first | omega | (split <;> omega)) (fun c_64 => ?_) (fun c_64 => by exact absurd c_64 (by decide))
      refine j_aload_n dX12_readBankLine_74 rfl ?_
      refine j_ldcS dX12_readBankLine_75 (t := 7) (by decide +kernel) ?_
      refine r_cv1I dX12_readBankLine_77 cvX12_114 (by decide) (by first | assumption | exact hsh _ _ rfl) (Nat.le_of_ble_eq_true rfl) (Nat.le_of_eq (Nat.zero_add _)) (Nat.le_of_eq (Nat.zero_add _)) (s0 7 (by decide) (wd_one (by decide) (by decide) (by decide) h)) ?_
      refine j_if_eq (tgt := 88) dX12_readBankLine_80 rfl (by first | omega | (split <;> omega)) (fun c_80 => ?_) (fun c_80 => by exact absurd c_80 (by decide))
      refine j_aload_n dX12_readBankLine_88 rfl ?_
      refine j_ldcS dX12_readBankLine_89 (t := 8) (by decide +kernel) ?_
      refine r_cv1I dX12_readBankLine_91 cvX12_114 (by decide) (by first | assumption | exact hsh _ _ rfl) (Nat.le_of_ble_eq_true rfl) (Nat.le_of_eq (Nat.zero_add _)) (Nat.le_of_eq (Nat.zero_add _)) (s0 8 (by decide) (wd_one (by decide) (by decide) (by decide) h)) ?_
      refine j_if_eq (tgt := 102) dX12_readBankLine_94 rfl (by first | omega | (split <;> omega)) (fun c_94 => ?_) (fun c_94 => by exact absurd c_94 (by decide))
      refine j_aload_n dX12_readBankLine_102 rfl ?_
      refine j_ldcS dX12_readBankLine_103 (t := 9) (by decide +kernel) ?_
      refine r_cv1I dX12_readBankLine_105 cvX12_114 (by decide) (by first | assumption | exact hsh _ _ rfl) (Nat.le_of_ble_eq_true rfl) (Nat.le_of_eq (Nat.zero_add _)) (Nat.le_of_eq (Nat.zero_add _)) (s0 9 (by decide) (wd_one (by decide) (by decide) (by decide) h)) ?_
      refine j_if_eq (tgt := 119) dX12_readBankLine_108 rfl (by first | omega | (split <;> omega)) (fun c_108 => ?_) (fun c_108 => by exact absurd c_108 (by decide))
      refine j_aload_n dX12_readBankLine_119 rfl ?_
      refine j_ldcS dX12_readBankLine_120 (t := 10) (by decide +kernel) ?_
      refine r_cv1I dX12_readBankLine_122 cvX12_114 (by decide) (by first | assumption | exact hsh _ _ rfl) (Nat.le_of_ble_eq_true rfl) (Nat.le_of_eq (Nat.zero_add _)) (Nat.le_of_eq (Nat.zero_add _)) (s1 10 (by decide) h) ?_
      refine j_if_eq (tgt := 136) dX12_readBankLine_125 rfl (by first | omega | (split <;> omega)) (fun c_125 => by exact absurd c_125 (by decide)) (fun c_125 => ?_)
      refine j_aload_n dX12_readBankLine_128 rfl ?_
      refine j_iconst dX12_readBankLine_129 ?_
      refine j_bipush dX12_readBankLine_130 (by decide) ?_
      refine r_cv2EI dX12_readBankLine_132 cvX12_173 (by decide) (by first | assumption | exact hsh _ _ rfl) (Nat.le_of_ble_eq_true rfl) (Nat.le_of_eq (Nat.zero_add _)) (Nat.le_of_eq (Nat.zero_add _)) (mb_number (d := d + 2) (c := 5) hsh hfx (hE 10 (by decide) h) hw (by omega)) (fun J hJ => ?_)
      refine j_zret dX12_readBankLine_135 rfl hz ?_
      exact rEI_of rfl hJ
    · rw [e] at hz ⊢
      refine j_aload_n dX12_readBankLine_0 rfl ?_
      refine j_ldcS dX12_readBankLine_1 (t := 0) (by decide +kernel) ?_
      refine r_cv1I dX12_readBankLine_3 cvX12_114 (by decide) (by first | assumption | exact hsh _ _ rfl) (Nat.le_of_ble_eq_true rfl) (Nat.le_of_eq (Nat.zero_add _)) (Nat.le_of_eq (Nat.zero_add _)) (s0 0 (by decide) (wd_one (by decide) (by decide) (by decide) h)) ?_
      refine j_if_eq (tgt := 14) dX12_readBankLine_6 rfl (by first | omega | (split <;> omega)) (fun c_6 => ?_) (fun c_6 => by exact absurd c_6 (by decide))
      refine j_aload_n dX12_readBankLine_14 rfl ?_
      refine j_ldcS dX12_readBankLine_15 (t := 6) (by decide +kernel) ?_
      refine r_cv1I dX12_readBankLine_17 cvX12_114 (by decide) (by first | assumption | exact hsh _ _ rfl) (Nat.le_of_ble_eq_true rfl) (Nat.le_of_eq (Nat.zero_add _)) (Nat.le_of_eq (Nat.zero_add _)) (s0 6 (by decide) (wd_one (by decide) (by decide) (by decide) h)) ?_
      refine j_if_eq (tgt := 28) dX12_readBankLine_20 rfl (by first | omega | (split <;> omega)) (fun c_20 => ?_) (fun c_20 => by exact absurd c_20 (by decide))
      refine j_aload_n dX12_readBankLine_28 rfl ?_
      refine j_ldcS dX12_readBankLine_29 (t := 3) (by decide +kernel) ?_
      refine r_cv1I dX12_readBankLine_31 cvX12_114 (by decide) (by first | assumption | exact hsh _ _ rfl) (Nat.le_of_ble_eq_true rfl) (Nat.le_of_eq (Nat.zero_add _)) (Nat.le_of_eq (Nat.zero_add _)) (s0 3 (by decide) (wd_one (by decide) (by decide) (by decide) h)) ?_
      refine j_if_eq (tgt := 43) dX12_readBankLine_34 rfl (by first | omega | (split <;> omega)) (fun c_34 => ?_) (fun c_34 => by exact absurd c_34 (by decide))
      refine j_aload_n dX12_readBankLine_43 rfl ?_
      refine j_ldcS dX12_readBankLine_44 (t := 4) (by decide +kernel) ?_
      refine r_cv1I dX12_readBankLine_46 cvX12_114 (by decide) (by first | assumption | exact hsh _ _ rfl) (Nat.le_of_ble_eq_true rfl) (Nat.le_of_eq (Nat.zero_add _)) (Nat.le_of_eq (Nat.zero_add _)) (s0 4 (by decide) (wd_one (by decide) (by decide) (by decide) h)) ?_
      refine j_if_eq (tgt := 58) dX12_readBankLine_49 rfl (by first | omega | (split <;> omega)) (fun c_49 => ?_) (fun c_49 => by exact absurd c_49 (by decide))
      refine j_aload_n dX12_readBankLine_58 rfl ?_
      refine j_ldcS dX12_readBankLine_59 (t := 5) (by decide +kernel) ?_
      refine r_cv1I dX12_readBankLine_61 cvX12_114 (by decide) (by first | assumption | exact hsh _ _ rfl) (Nat.le_of_ble_eq_true rfl) (Nat.le_of_eq (Nat.zero_add _)) (Nat.le_of_eq (Nat.zero_add _)) (s0 5 (by decide) (wd_one (by decide) (by decide) (by decide) h)) ?_
      refine j_if_eq (tgt := 74) dX12_readBankLine_64 rfl (by first | omega | (split <;> omega)) (fun c_64 => ?_) (fun c_64 => by exact absurd c_64 (by decide))
      refine j_aload_n dX12_readBankLine_74 rfl ?_
      refine j_ldcS dX12_readBankLine_75 (t := 7) (by decide +kernel) ?_
      refine r_cv1I dX12_readBankLine_77 cvX12_114 (by decide) (by first | assumption | exact hsh _ _ rfl) (Nat.le_of_ble_eq_true rfl) (Nat.le_of_eq (Nat.zero_add _)) (Nat.le_of_eq (Nat.zero_add _)) (s0 7 (by decide) (wd_one (by decide) (by decide) (by decide) h)) ?_
      refine j_if_eq (tgt := 88) dX12_readBankLine_80 rfl (by first | omega | (split <;> omega)) (fun c_80 => ?_) (fun c_80 => by exact absurd c_80 (by decide))
      refine j_aload_n dX12_readBankLine_88 rfl ?_
      refine j_ldcS dX12_readBankLine_89 (t := 8) (by decide +kernel) ?_
      refine r_cv1I dX12_readBankLine_91 cvX12_114 (by decide) (by first | assumption | exact hsh _ _ rfl) (Nat.le_of_ble_eq_true rfl) (Nat.le_of_eq (Nat.zero_add _)) (Nat.le_of_eq (Nat.zero_add _)) (s0 8 (by decide) (wd_one (by decide) (by decide) (by decide) h)) ?_
      refine j_if_eq (tgt := 102) dX12_readBankLine_94 rfl (by first | omega | (split <;> omega)) (fun c_94 => ?_) (fun c_94 => by exact absurd c_94 (by decide))
      refine j_aload_n dX12_readBankLine_102 rfl ?_
      refine j_ldcS dX12_readBankLine_103 (t := 9) (by decide +kernel) ?_
      refine r_cv1I dX12_readBankLine_105 cvX12_114 (by decide) (by first | assumption | exact hsh _ _ rfl) (Nat.le_of_ble_eq_true rfl) (Nat.le_of_eq (Nat.zero_add _)) (Nat.le_of_eq (Nat.zero_add _)) (s0 9 (by decide) (wd_one (by decide) (by decide) (by decide) h)) ?_
      refine j_if_eq (tgt := 119) dX12_readBankLine_108 rfl (by first | omega | (split <;> omega)) (fun c_108 => ?_) (fun c_108 => by exact absurd c_108 (by decide))
      refine j_aload_n dX12_readBankLine_119 rfl ?_
      refine j_ldcS dX12_readBankLine_120 (t := 10) (by decide +kernel) ?_
      refine r_cv1I dX12_readBankLine_122 cvX12_114 (by decide) (by first | assumption | exact hsh _ _ rfl) (Nat.le_of_ble_eq_true rfl) (Nat.le_of_eq (Nat.zero_add _)) (Nat.le_of_eq (Nat.zero_add _)) (s0 10 (by decide) (wd_one (by decide) (by decide) (by decide) h)) ?_
      refine j_if_eq (tgt := 136) dX12_readBankLine_125 rfl (by first | omega | (split <;> omega)) (fun c_125 => ?_) (fun c_125 => by exact absurd c_125 (by decide))
      refine j_aload_n dX12_readBankLine_136 rfl ?_
      refine j_ldcS dX12_readBankLine_137 (t := 11) (by decide +kernel) ?_
      refine r_cv1I dX12_readBankLine_139 cvX12_114 (by decide) (by first | assumption | exact hsh _ _ rfl) (Nat.le_of_ble_eq_true rfl) (Nat.le_of_eq (Nat.zero_add _)) (Nat.le_of_eq (Nat.zero_add _)) (s1 11 (by decide) h) ?_
      refine j_if_eq (tgt := 154) dX12_readBankLine_142 rfl (by first | omega | (split <;> omega)) (fun c_142 => by exact absurd c_142 (by decide)) (fun c_142 => ?_)
      refine j_aload_n dX12_readBankLine_145 rfl ?_
      refine j_bipush dX12_readBankLine_146 (by decide) ?_
      refine j_bipush dX12_readBankLine_148 (by decide) ?_
      refine r_cv2EI dX12_readBankLine_150 cvX12_173 (by decide) (by first | assumption | exact hsh _ _ rfl) (Nat.le_of_ble_eq_true rfl) (Nat.le_of_eq (Nat.zero_add _)) (Nat.le_of_eq (Nat.zero_add _)) (mb_number (d := d + 2) (c := 6) hsh hfx (hE 11 (by decide) h) hw (by omega)) (fun J hJ => ?_)
      refine j_zret dX12_readBankLine_153 rfl hz ?_
      exact rEI_of rfl hJ
    · rw [e] at hz ⊢
      have sF := mb_number (G := G) (d := d + 2) (c := 7) hsh hfx (hE 12 (by decide) h) hw (by omega)
      rcases hz with hz | hz
      · rw [hz] at sF ⊢
        refine j_aload_n dX12_readBankLine_0 rfl ?_
        refine j_ldcS dX12_readBankLine_1 (t := 0) (by decide +kernel) ?_
        refine r_cv1I dX12_readBankLine_3 cvX12_114 (by decide) (by first | assumption | exact hsh _ _ rfl) (Nat.le_of_ble_eq_true rfl) (Nat.le_of_eq (Nat.zero_add _)) (Nat.le_of_eq (Nat.zero_add _)) (s0 0 (by decide) (wd_one (by decide) (by decide) (by decide) h)) ?_
        refine j_if_eq (tgt := 14) dX12_readBankLine_6 rfl (by first | omega | (split <;> omega)) (fun c_6 => ?_) (fun c_6 => by exact absurd c_6 (by decide))
        refine j_aload_n dX12_readBankLine_14 rfl ?_
        refine j_ldcS dX12_readBankLine_15 (t := 6) (by decide +kernel) ?_
        refine r_cv1I dX12_readBankLine_17 cvX12_114 (by decide) (by first | assumption | exact hsh _ _ rfl) (Nat.le_of_ble_eq_true rfl) (Nat.le_of_eq (Nat.zero_add _)) (Nat.le_of_eq (Nat.zero_add _)) (s0 6 (by decide) (wd_one (by decide) (by decide) (by decide) h)) ?_
        refine j_if_eq (tgt := 28) dX12_readBankLine_20 rfl (by first | omega | (split <;> omega)) (fun c_20 => ?_) (fun c_20 => by exact absurd c_20 (by decide))
        refine j_aload_n dX12_readBankLine_28 rfl ?_
        refine j_ldcS dX12_readBankLine_29 (t := 3) (by decide +kernel) ?_
        refine r_cv1I dX12_readBankLine_31 cvX12_114 (by decide) (by first | assumption | exact hsh _ _ rfl) (Nat.le_of_ble_eq_true rfl) (Nat.le_of_eq (Nat.zero_add _)) (Nat.le_of_eq (Nat.zero_add _)) (s0 3 (by decide) (wd_one (by decide) (by decide) (by decide) h)) ?_
        refine j_if_eq (tgt := 43) dX12_readBankLine_34 rfl (by first | omega | (split <;> omega)) (fun c_34 => ?_) (fun c_34 => by exact absurd c_34 (by decide))
        refine j_aload_n dX12_readBankLine_43 rfl ?_
        refine j_ldcS dX12_readBankLine_44 (t := 4) (by decide +kernel) ?_
        refine r_cv1I dX12_readBankLine_46 cvX12_114 (by decide) (by first | assumption | exact hsh _ _ rfl) (Nat.le_of_ble_eq_true rfl) (Nat.le_of_eq (Nat.zero_add _)) (Nat.le_of_eq (Nat.zero_add _)) (s0 4 (by decide) (wd_one (by decide) (by decide) (by decide) h)) ?_
        refine j_if_eq (tgt := 58) dX12_readBankLine_49 rfl (by first | omega | (split <;> omega)) (fun c_49 => ?_) (fun c_49 => by exact absurd c_49 (by decide))
        refine j_aload_n dX12_readBankLine_58 rfl ?_
        refine j_ldcS dX12_readBankLine_59 (t := 5) (by decide +kernel) ?_
        refine r_cv1I dX12_readBankLine_61 cvX12_114 (by decide) (by first | assumption | exact hsh _ _ rfl) (Nat.le_of_ble_eq_true rfl) (Nat.le_of_eq (Nat.zero_add _)) (Nat.le_of_eq (Nat.zero_add _)) (s0 5 (by decide) (wd_one (by decide) (by decide) (by decide) h)) ?_
        refine j_if_eq (tgt := 74) dX12_readBankLine_64 rfl (by first | omega | (split <;> omega)) (fun c_64 => ?_) (fun c_64 => by exact absurd c_64 (by decide))
        refine j_aload_n dX12_readBankLine_74 rfl ?_
        refine j_ldcS dX12_readBankLine_75 (t := 7) (by decide +kernel) ?_
        refine r_cv1I dX12_readBankLine_77 cvX12_114 (by decide) (by first | assumption | exact hsh _ _ rfl) (Nat.le_of_ble_eq_true rfl) (Nat.le_of_eq (Nat.zero_add _)) (Nat.le_of_eq (Nat.zero_add _)) (s0 7 (by decide) (wd_one (by decide) (by decide) (by decide) h)) ?_
        refine j_if_eq (tgt := 88) dX12_readBankLine_80 rfl (by first | omega | (split <;> omega)) (fun c_80 => ?_) (fun c_80 => by exact absurd c_80 (by decide))
        refine j_aload_n dX12_readBankLine_88 rfl ?_
        refine j_ldcS dX12_readBankLine_89 (t := 8) (by decide +kernel) ?_
        refine r_cv1I dX12_readBankLine_91 cvX12_114 (by decide) (by first | assumption | exact hsh _ _ rfl) (Nat.le_of_ble_eq_true rfl) (Nat.le_of_eq (Nat.zero_add _)) (Nat.le_of_eq (Nat.zero_add _)) (s0 8 (by decide) (wd_one (by decide) (by decide) (by decide) h)) ?_
        refine j_if_eq (tgt := 102) dX12_readBankLine_94 rfl (by first | omega | (split <;> omega)) (fun c_94 => ?_) (fun c_94 => by exact absurd c_94 (by decide))
        refine j_aload_n dX12_readBankLine_102 rfl ?_
        refine j_ldcS dX12_readBankLine_103 (t := 9) (by decide +kernel) ?_
        refine r_cv1I dX12_readBankLine_105 cvX12_114 (by decide) (by first | assumption | exact hsh _ _ rfl) (Nat.le_of_ble_eq_true rfl) (Nat.le_of_eq (Nat.zero_add _)) (Nat.le_of_eq (Nat.zero_add _)) (s0 9 (by decide) (wd_one (by decide) (by decide) (by decide) h)) ?_
        refine j_if_eq (tgt := 119) dX12_readBankLine_108 rfl (by first | omega | (split <;> omega)) (fun c_108 => ?_) (fun c_108 => by exact absurd c_108 (by decide))
        refine j_aload_n dX12_readBankLine_119 rfl ?_
        refine j_ldcS dX12_readBankLine_120 (t := 10) (by decide +kernel) ?_
        refine r_cv1I dX12_readBankLine_122 cvX12_114 (by decide) (by first | assumption | exact hsh _ _ rfl) (Nat.le_of_ble_eq_true rfl) (Nat.le_of_eq (Nat.zero_add _)) (Nat.le_of_eq (Nat.zero_add _)) (s0 10 (by decide) (wd_one (by decide) (by decide) (by decide) h)) ?_
        refine j_if_eq (tgt := 136) dX12_readBankLine_125 rfl (by first | omega | (split <;> omega)) (fun c_125 => ?_) (fun c_125 => by exact absurd c_125 (by decide))
        refine j_aload_n dX12_readBankLine_136 rfl ?_
        refine j_ldcS dX12_readBankLine_137 (t := 11) (by decide +kernel) ?_
        refine r_cv1I dX12_readBankLine_139 cvX12_114 (by decide) (by first | assumption | exact hsh _ _ rfl) (Nat.le_of_ble_eq_true rfl) (Nat.le_of_eq (Nat.zero_add _)) (Nat.le_of_eq (Nat.zero_add _)) (s0 11 (by decide) (wd_one (by decide) (by decide) (by decide) h)) ?_
        refine j_if_eq (tgt := 154) dX12_readBankLine_142 rfl (by first | omega | (split <;> omega)) (fun c_142 => ?_) (fun c_142 => by exact absurd c_142 (by decide))
        refine j_aload_n dX12_readBankLine_154 rfl ?_
        refine j_ldcS dX12_readBankLine_155 (t := 12) (by decide +kernel) ?_
        refine r_cv1I dX12_readBankLine_157 cvX12_114 (by decide) (by first | assumption | exact hsh _ _ rfl) (Nat.le_of_ble_eq_true rfl) (Nat.le_of_eq (Nat.zero_add _)) (Nat.le_of_eq (Nat.zero_add _)) (s1 12 (by decide) h) ?_
        refine j_if_eq (tgt := 178) dX12_readBankLine_160 rfl (by first | omega | (split <;> omega)) (fun c_160 => by exact absurd c_160 (by decide)) (fun c_160 => ?_)
        refine j_aload_n dX12_readBankLine_163 rfl ?_
        refine j_bipush dX12_readBankLine_164 (by decide) ?_
        refine j_bipush dX12_readBankLine_166 (by decide) ?_
        refine r_cv2EI dX12_readBankLine_168 cvX12_173 (by decide) (by first | assumption | exact hsh _ _ rfl) (Nat.le_of_ble_eq_true rfl) (Nat.le_of_eq (Nat.zero_add _)) (Nat.le_of_eq (Nat.zero_add _)) (sF) (fun J hJ => ?_)
        refine j_if_eq (tgt := 178) dX12_readBankLine_171 rfl (by first | omega | (split <;> omega)) (fun c_171 => ?_) (fun c_171 => by exact absurd c_171 (by decide))
        refine j_iconst dX12_readBankLine_178 ?_
        refine j_zret dX12_readBankLine_179 rfl (by omega) ?_
        exact rEI_of rfl hJ
      · rw [hz] at sF ⊢
        refine j_aload_n dX12_readBankLine_0 rfl ?_
        refine j_ldcS dX12_readBankLine_1 (t := 0) (by decide +kernel) ?_
        refine r_cv1I dX12_readBankLine_3 cvX12_114 (by decide) (by first | assumption | exact hsh _ _ rfl) (Nat.le_of_ble_eq_true rfl) (Nat.le_of_eq (Nat.zero_add _)) (Nat.le_of_eq (Nat.zero_add _)) (s0 0 (by decide) (wd_one (by decide) (by decide) (by decide) h)) ?_
        refine j_if_eq (tgt := 14) dX12_readBankLine_6 rfl (by first | omega | (split <;> omega)) (fun c_6 => ?_) (fun c_6 => by exact absurd c_6 (by decide))
        refine j_aload_n dX12_readBankLine_14 rfl ?_
        refine j_ldcS dX12_readBankLine_15 (t := 6) (by decide +kernel) ?_
        refine r_cv1I dX12_readBankLine_17 cvX12_114 (by decide) (by first | assumption | exact hsh _ _ rfl) (Nat.le_of_ble_eq_true rfl) (Nat.le_of_eq (Nat.zero_add _)) (Nat.le_of_eq (Nat.zero_add _)) (s0 6 (by decide) (wd_one (by decide) (by decide) (by decide) h)) ?_
        refine j_if_eq (tgt := 28) dX12_readBankLine_20 rfl (by first | omega | (split <;> omega)) (fun c_20 => ?_) (fun c_20 => by exact absurd c_20 (by decide))
        refine j_aload_n dX12_readBankLine_28 rfl ?_
        refine j_ldcS dX12_readBankLine_29 (t := 3) (by decide +kernel) ?_
        refine r_cv1I dX12_readBankLine_31 cvX12_114 (by decide) (by first | assumption | exact hsh _ _ rfl) (Nat.le_of_ble_eq_true rfl) (Nat.le_of_eq (Nat.zero_add _)) (Nat.le_of_eq (Nat.zero_add _)) (s0 3 (by decide) (wd_one (by decide) (by decide) (by decide) h)) ?_
        refine j_if_eq (tgt := 43) dX12_readBankLine_34 rfl (by first | omega | (split <;> omega)) (fun c_34 => ?_) (fun c_34 => by exact absurd c_34 (by decide))
        refine j_aload_n dX12_readBankLine_43 rfl ?_
        refine j_ldcS dX12_readBankLine_44 (t := 4) (by decide +kernel) ?_
        refine r_cv1I dX12_readBankLine_46 cvX12_114 (by decide) (by first | assumption | exact hsh _ _ rfl) (Nat.le_of_ble_eq_true rfl) (Nat.le_of_eq (Nat.zero_add _)) (Nat.le_of_eq (Nat.zero_add _)) (s0 4 (by decide) (wd_one (by decide) (by decide) (by decide) h)) ?_
        refine j_if_eq (tgt := 58) dX12_readBankLine_49 rfl (by first | omega | (split <;> omega)) (fun c_49 => ?_) (fun c_49 => by exact absurd c_49 (by decide))
        refine j_aload_n dX12_readBankLine_58 rfl ?_
        refine j_ldcS dX12_readBankLine_59 (t := 5) (by decide +kernel) ?_
        refine r_cv1I dX12_readBankLine_61 cvX12_114 (by decide) (by first | assumption | exact hsh _ _ rfl) (Nat.le_of_ble_eq_true rfl) (Nat.le_of_eq (Nat.zero_add _)) (Nat.le_of_eq (Nat.zero_add _)) (s0 5 (by decide) (wd_one (by decide) (by decide) (by decide) h)) ?_
        refine j_if_eq (tgt := 74) dX12_readBankLine_64 rfl (by first | omega | (split <;> omega)) (fun c_64 => ?_) (fun c_64 => by exact absurd c_64 (by decide))
        refine j_aload_n dX12_readBankLine_74 rfl ?_
        refine j_ldcS dX12_readBankLine_75 (t := 7) (by decide +kernel) ?_
        refine r_cv1I dX12_readBankLine_77 cvX12_114 (by decide) (by first | assumption | exact hsh _ _ rfl) (Nat.le_of_ble_eq_true rfl) (Nat.le_of_eq (Nat.zero_add _)) (Nat.le_of_eq (Nat.zero_add _)) (s0 7 (by decide) (wd_one (by decide) (by decide) (by decide) h)) ?_
        refine j_if_eq (tgt := 88) dX12_readBankLine_80 rfl (by first | omega | (split <;> omega)) (fun c_80 => ?_) (fun c_80 => by exact absurd c_80 (by decide))
        refine j_aload_n dX12_readBankLine_88 rfl ?_
        refine j_ldcS dX12_readBankLine_89 (t := 8) (by decide +kernel) ?_
        refine r_cv1I dX12_readBankLine_91 cvX12_114 (by decide) (by first | assumption | exact hsh _ _ rfl) (Nat.le_of_ble_eq_true rfl) (Nat.le_of_eq (Nat.zero_add _)) (Nat.le_of_eq (Nat.zero_add _)) (s0 8 (by decide) (wd_one (by decide) (by decide) (by decide) h)) ?_
        refine j_if_eq (tgt := 102) dX12_readBankLine_94 rfl (by first | omega | (split <;> omega)) (fun c_94 => ?_) (fun c_94 => by exact absurd c_94 (by decide))
        refine j_aload_n dX12_readBankLine_102 rfl ?_
        refine j_ldcS dX12_readBankLine_103 (t := 9) (by decide +kernel) ?_
        refine r_cv1I dX12_readBankLine_105 cvX12_114 (by decide) (by first | assumption | exact hsh _ _ rfl) (Nat.le_of_ble_eq_true rfl) (Nat.le_of_eq (Nat.zero_add _)) (Nat.le_of_eq (Nat.zero_add _)) (s0 9 (by decide) (wd_one (by decide) (by decide) (by decide) h)) ?_
        refine j_if_eq (tgt := 119) dX12_readBankLine_108 rfl (by first | omega | (split <;> omega)) (fun c_108 => ?_) (fun c_108 => by exact absurd c_108 (by decide))
        refine j_aload_n dX12_readBankLine_119 rfl ?_
        refine j_ldcS dX12_readBankLine_120 (t := 10) (by decide +kernel) ?_
        refine r_cv1I dX12_readBankLine_122 cvX12_114 (by decide) (by first | assumption | exact hsh _ _ rfl) (Nat.le_of_ble_eq_true rfl) (Nat.le_of_eq (Nat.zero_add _)) (Nat.le_of_eq (Nat.zero_add _)) (s0 10 (by decide) (wd_one (by decide) (by decide) (by decide) h)) ?_
        refine j_if_eq (tgt := 136) dX12_readBankLine_125 rfl (by first | omega | (split <;> omega)) (fun c_125 => ?_) (fun c_125 => by exact absurd c_125 (by decide))
        refine j_aload_n dX12_readBankLine_136 rfl ?_
        refine j_ldcS dX12_readBankLine_137 (t := 11) (by decide +kernel) ?_
        refine r_cv1I dX12_readBankLine_139 cvX12_114 (by decide) (by first | assumption | exact hsh _ _ rfl) (Nat.le_of_ble_eq_true rfl) (Nat.le_of_eq (Nat.zero_add _)) (Nat.le_of_eq (Nat.zero_add _)) (s0 11 (by decide) (wd_one (by decide) (by decide) (by decide) h)) ?_
        refine j_if_eq (tgt := 154) dX12_readBankLine_142 rfl (by first | omega | (split <;> omega)) (fun c_142 => ?_) (fun c_142 => by exact absurd c_142 (by decide))
        refine j_aload_n dX12_readBankLine_154 rfl ?_
        refine j_ldcS dX12_readBankLine_155 (t := 12) (by decide +kernel) ?_
        refine r_cv1I dX12_readBankLine_157 cvX12_114 (by decide) (by first | assumption | exact hsh _ _ rfl) (Nat.le_of_ble_eq_true rfl) (Nat.le_of_eq (Nat.zero_add _)) (Nat.le_of_eq (Nat.zero_add _)) (s1 12 (by decide) h) ?_
        refine j_if_eq (tgt := 178) dX12_readBankLine_160 rfl (by first | omega | (split <;> omega)) (fun c_160 => by exact absurd c_160 (by decide)) (fun c_160 => ?_)
        refine j_aload_n dX12_readBankLine_163 rfl ?_
        refine j_bipush dX12_readBankLine_164 (by decide) ?_
        refine j_bipush dX12_readBankLine_166 (by decide) ?_
        refine r_cv2EI dX12_readBankLine_168 cvX12_173 (by decide) (by first | assumption | exact hsh _ _ rfl) (Nat.le_of_ble_eq_true rfl) (Nat.le_of_eq (Nat.zero_add _)) (Nat.le_of_eq (Nat.zero_add _)) (sF) (fun J hJ => ?_)
        refine j_if_eq (tgt := 178) dX12_readBankLine_171 rfl (by first | omega | (split <;> omega)) (fun c_171 => by exact absurd c_171 (by decide)) (fun c_171 => ?_)
        refine j_iconst dX12_readBankLine_174 ?_
        refine j_goto (tgt := 179) dX12_readBankLine_175 rfl ?_
        refine j_zret dX12_readBankLine_179 rfl (by omega) ?_
        exact rEI_of rfl hJ
  · rw [e]
    refine j_aload_n dX12_readBankLine_0 rfl ?_
    refine j_ldcS dX12_readBankLine_1 (t := 0) (by decide +kernel) ?_
    refine r_cv1I dX12_readBankLine_3 cvX12_114 (by decide) (by first | assumption | exact hsh _ _ rfl) (Nat.le_of_ble_eq_true rfl) (Nat.le_of_eq (Nat.zero_add _)) (Nat.le_of_eq (Nat.zero_add _)) (s0 0 (by decide) (h 0 (by decide) (by decide) (by decide))) ?_
    refine j_if_eq (tgt := 14) dX12_readBankLine_6 rfl (by first | omega | (split <;> omega)) (fun c_6 => ?_) (fun c_6 => by exact absurd c_6 (by decide))
    refine j_aload_n dX12_readBankLine_14 rfl ?_
    refine j_ldcS dX12_readBankLine_15 (t := 6) (by decide +kernel) ?_
    refine r_cv1I dX12_readBankLine_17 cvX12_114 (by decide) (by first | assumption | exact hsh _ _ rfl) (Nat.le_of_ble_eq_true rfl) (Nat.le_of_eq (Nat.zero_add _)) (Nat.le_of_eq (Nat.zero_add _)) (s0 6 (by decide) (h 6 (by decide) (by decide) (by decide))) ?_
    refine j_if_eq (tgt := 28) dX12_readBankLine_20 rfl (by first | omega | (split <;> omega)) (fun c_20 => ?_) (fun c_20 => by exact absurd c_20 (by decide))
    refine j_aload_n dX12_readBankLine_28 rfl ?_
    refine j_ldcS dX12_readBankLine_29 (t := 3) (by decide +kernel) ?_
    refine r_cv1I dX12_readBankLine_31 cvX12_114 (by decide) (by first | assumption | exact hsh _ _ rfl) (Nat.le_of_ble_eq_true rfl) (Nat.le_of_eq (Nat.zero_add _)) (Nat.le_of_eq (Nat.zero_add _)) (s0 3 (by decide) (h 3 (by decide) (by decide) (by decide))) ?_
    refine j_if_eq (tgt := 43) dX12_readBankLine_34 rfl (by first | omega | (split <;> omega)) (fun c_34 => ?_) (fun c_34 => by exact absurd c_34 (by decide))
    refine j_aload_n dX12_readBankLine_43 rfl ?_
    refine j_ldcS dX12_readBankLine_44 (t := 4) (by decide +kernel) ?_
    refine r_cv1I dX12_readBankLine_46 cvX12_114 (by decide) (by first | assumption | exact hsh _ _ rfl) (Nat.le_of_ble_eq_true rfl) (Nat.le_of_eq (Nat.zero_add _)) (Nat.le_of_eq (Nat.zero_add _)) (s0 4 (by decide) (h 4 (by decide) (by decide) (by decide))) ?_
    refine j_if_eq (tgt := 58) dX12_readBankLine_49 rfl (by first | omega | (split <;> omega)) (fun c_49 => ?_) (fun c_49 => by exact absurd c_49 (by decide))
    refine j_aload_n dX12_readBankLine_58 rfl ?_
    refine j_ldcS dX12_readBankLine_59 (t := 5) (by decide +kernel) ?_
    refine r_cv1I dX12_readBankLine_61 cvX12_114 (by decide) (by first | assumption | exact hsh _ _ rfl) (Nat.le_of_ble_eq_true rfl) (Nat.le_of_eq (Nat.zero_add _)) (Nat.le_of_eq (Nat.zero_add _)) (s0 5 (by decide) (h 5 (by decide) (by decide) (by decide))) ?_
    refine j_if_eq (tgt := 74) dX12_readBankLine_64 rfl (by first | omega | (split <;> omega)) (fun c_64 => ?_) (fun c_64 => by exact absurd c_64 (by decide))
    refine j_aload_n dX12_readBankLine_74 rfl ?_
    refine j_ldcS dX12_readBankLine_75 (t := 7) (by decide +kernel) ?_
    refine r_cv1I dX12_readBankLine_77 cvX12_114 (by decide) (by first | assumption | exact hsh _ _ rfl) (Nat.le_of_ble_eq_true rfl) (Nat.le_of_eq (Nat.zero_add _)) (Nat.le_of_eq (Nat.zero_add _)) (s0 7 (by decide) (h 7 (by decide) (by decide) (by decide))) ?_
    refine j_if_eq (tgt := 88) dX12_readBankLine_80 rfl (by first | omega | (split <;> omega)) (fun c_80 => ?_) (fun c_80 => by exact absurd c_80 (by decide))
    refine j_aload_n dX12_readBankLine_88 rfl ?_
    refine j_ldcS dX12_readBankLine_89 (t := 8) (by decide +kernel) ?_
    refine r_cv1I dX12_readBankLine_91 cvX12_114 (by decide) (by first | assumption | exact hsh _ _ rfl) (Nat.le_of_ble_eq_true rfl) (Nat.le_of_eq (Nat.zero_add _)) (Nat.le_of_eq (Nat.zero_add _)) (s0 8 (by decide) (h 8 (by decide) (by decide) (by decide))) ?_
    refine j_if_eq (tgt := 102) dX12_readBankLine_94 rfl (by first | omega | (split <;> omega)) (fun c_94 => ?_) (fun c_94 => by exact absurd c_94 (by decide))
    refine j_aload_n dX12_readBankLine_102 rfl ?_
    refine j_ldcS dX12_readBankLine_103 (t := 9) (by decide +kernel) ?_
    refine r_cv1I dX12_readBankLine_105 cvX12_114 (by decide) (by first | assumption | exact hsh _ _ rfl) (Nat.le_of_ble_eq_true rfl) (Nat.le_of_eq (Nat.zero_add _)) (Nat.le_of_eq (Nat.zero_add _)) (s0 9 (by decide) (h 9 (by decide) (by decide) (by decide))) ?_
    refine j_if_eq (tgt := 119) dX12_readBankLine_108 rfl (by first | omega | (split <;> omega)) (fun c_108 => ?_) (fun c_108 => by exact absurd c_108 (by decide))
    refine j_aload_n dX12_readBankLine_119 rfl ?_
    refine j_ldcS dX12_readBankLine_120 (t := 10) (by decide +kernel) ?_
    refine r_cv1I dX12_readBankLine_122 cvX12_114 (by decide) (by first | assumption | exact hsh _ _ rfl) (Nat.le_of_ble_eq_true rfl) (Nat.le_of_eq (Nat.zero_add _)) (Nat.le_of_eq (Nat.zero_add _)) (s0 10 (by decide) (h 10 (by decide) (by decide) (by decide))) ?_
    refine j_if_eq (tgt := 136) dX12_readBankLine_125 rfl (by first | omega | (split <;> omega)) (fun c_125 => ?_) (fun c_125 => by exact absurd c_125 (by decide))
    refine j_aload_n dX12_readBankLine_136 rfl ?_
    refine j_ldcS dX12_readBankLine_137 (t := 11) (by decide +kernel) ?_
    refine r_cv1I dX12_readBankLine_139 cvX12_114 (by decide) (by first | assumption | exact hsh _ _ rfl) (Nat.le_of_ble_eq_true rfl) (Nat.le_of_eq (Nat.zero_add _)) (Nat.le_of_eq (Nat.zero_add _)) (s0 11 (by decide) (h 11 (by decide) (by decide) (by decide))) ?_
    refine j_if_eq (tgt := 154) dX12_readBankLine_142 rfl (by first | omega | (split <;> omega)) (fun c_142 => ?_) (fun c_142 => by exact absurd c_142 (by decide))
    refine j_aload_n dX12_readBankLine_154 rfl ?_
    refine j_ldcS dX12_readBankLine_155 (t := 12) (by decide +kernel) ?_
    refine r_cv1I dX12_readBankLine_157 cvX12_114 (by decide) (by first | assumption | exact hsh _ _ rfl) (Nat.le_of_ble_eq_true rfl) (Nat.le_of_eq (Nat.zero_add _)) (Nat.le_of_eq (Nat.zero_add _)) (s0 12 (by decide) (h 12 (by decide) (by decide) (by decide))) ?_
    refine j_if_eq (tgt := 178) dX12_readBankLine_160 rfl (by first | omega | (split <;> omega)) (fun c_160 => ?_) (fun c_160 => by exact absurd c_160 (by decide))
    refine j_iconst dX12_readBankLine_178 ?_
    refine j_zret dX12_readBankLine_179 rfl (by omega) ?_
    exact rEI_of rfl (bMd_0 (FrY_X FrX_0) hM)
theorem mb_readLine (hsh : ShOK sh) (hfx : FxOK F) (hM : Mt I B n p b) (hp : lxB B n p = q) (hw : I 171 = w) (h8 : 0 ≤ aPe w ∧ aPe w ≤ 8) (hA : WfA w) {z : Int} (hz : 0 ≤ z ∧ z < 14) : jS G (d + 8) mX12_readLine [jR (some 170), jI 1, jI z] (sh, I, F) 0 0 (rEI (bLine B n w q).1 sh F (bMd I B n (bLine B n w q))) := by
  have h5 := hM.2.2.2.2.1
  have hqi := lx_le (B := B) (n := n) (lo := 32) (hi := 32) (p := p) h5.2
  rw [show lx B n 32 32 p = q from hp] at hqi
  have sL := fun (J : Nat → Int → Int) (hJ : Mt J B n (lx B n 97 122 q) q ∧ FrX I J) => mb_line (G := G) (d := d) hsh hfx hJ.1 (by omega) ((FrX_171 hJ.2).trans hw) h8 hA
  refine jS_go [some (jR (some 170)), some (jI 1), some (jI z)] (by decide +kernel) rfl (by simp [jone]) (Nat.le_of_ble_eq_true rfl) rfl (fun hok => ?_)
  rcases bLine_01 B n w q with e | e
  · rw [e] at sL ⊢
    refine j_aload_n dX12_readLine_0 rfl ?_
    refine r_cv0EV dX12_readLine_1 cvX12_111 (by decide) (by first | assumption | exact hsh _ _ rfl) (Nat.le_of_ble_eq_true rfl) (Nat.le_of_eq (Nat.zero_add _)) (Nat.le_of_eq (Nat.zero_add _)) (mt_lettersQ hsh hfx hM hp) (fun J hJ => ?_)
    refine j_iload_n dX12_readLine_4 rfl ?_
    refine j_iload_n dX12_readLine_5 rfl ?_
    refine j_if_eq (tgt := 14) dX12_readLine_6 rfl (by first | omega | (split <;> omega)) (fun c_6 => by exact absurd c_6 (by decide)) (fun c_6 => ?_)
    refine j_bipush dX12_readLine_9 (by decide) ?_
    refine j_goto (tgt := 16) dX12_readLine_11 rfl ?_
    refine j_icmp_ge (tgt := 45) dX12_readLine_16 rfl (by first | omega | (split <;> omega)) (by first | omega | (split <;> omega)) (fun c_16 => by exact absurd c_16 (by omega)) (fun c_16 => ?_)
    refine j_iload_n dX12_readLine_19 rfl ?_
    refine j_if_eq (tgt := 33) dX12_readLine_20 rfl (by first | omega | (split <;> omega)) (fun c_20 => by exact absurd c_20 (by decide)) (fun c_20 => ?_)
    refine j_aload_n dX12_readLine_23 rfl ?_
    refine r_cv0EI dX12_readLine_24 cvX12_236 (by decide) (by first | assumption | exact hsh _ _ rfl) (Nat.le_of_ble_eq_true rfl) (Nat.le_of_eq (Nat.zero_add _)) (Nat.le_of_eq (Nat.zero_add _)) (sL J hJ) (fun K hK => ?_)
    refine j_if_eq (tgt := 45) dX12_readLine_27 rfl (by first | omega | (split <;> omega)) (fun c_27 => ?_) (fun c_27 => by exact absurd c_27 (by decide))
    refine j_iconst dX12_readLine_45 ?_
    refine j_zret dX12_readLine_46 rfl (by omega) ?_
    exact rEI_of rfl ⟨FrY_tr (FrY_X hJ.2) hK.1, hK.2⟩
  · rw [e] at sL ⊢
    refine j_aload_n dX12_readLine_0 rfl ?_
    refine r_cv0EV dX12_readLine_1 cvX12_111 (by decide) (by first | assumption | exact hsh _ _ rfl) (Nat.le_of_ble_eq_true rfl) (Nat.le_of_eq (Nat.zero_add _)) (Nat.le_of_eq (Nat.zero_add _)) (mt_lettersQ hsh hfx hM hp) (fun J hJ => ?_)
    refine j_iload_n dX12_readLine_4 rfl ?_
    refine j_iload_n dX12_readLine_5 rfl ?_
    refine j_if_eq (tgt := 14) dX12_readLine_6 rfl (by first | omega | (split <;> omega)) (fun c_6 => by exact absurd c_6 (by decide)) (fun c_6 => ?_)
    refine j_bipush dX12_readLine_9 (by decide) ?_
    refine j_goto (tgt := 16) dX12_readLine_11 rfl ?_
    refine j_icmp_ge (tgt := 45) dX12_readLine_16 rfl (by first | omega | (split <;> omega)) (by first | omega | (split <;> omega)) (fun c_16 => by exact absurd c_16 (by omega)) (fun c_16 => ?_)
    refine j_iload_n dX12_readLine_19 rfl ?_
    refine j_if_eq (tgt := 33) dX12_readLine_20 rfl (by first | omega | (split <;> omega)) (fun c_20 => by exact absurd c_20 (by decide)) (fun c_20 => ?_)
    refine j_aload_n dX12_readLine_23 rfl ?_
    refine r_cv0EI dX12_readLine_24 cvX12_236 (by decide) (by first | assumption | exact hsh _ _ rfl) (Nat.le_of_ble_eq_true rfl) (Nat.le_of_eq (Nat.zero_add _)) (Nat.le_of_eq (Nat.zero_add _)) (sL J hJ) (fun K hK => ?_)
    refine j_if_eq (tgt := 45) dX12_readLine_27 rfl (by first | omega | (split <;> omega)) (fun c_27 => by exact absurd c_27 (by decide)) (fun c_27 => ?_)
    refine j_goto (tgt := 41) dX12_readLine_30 rfl ?_
    refine j_iconst dX12_readLine_41 ?_
    refine j_goto (tgt := 46) dX12_readLine_42 rfl ?_
    refine j_zret dX12_readLine_46 rfl (by omega) ?_
    exact rEI_of rfl ⟨FrY_tr (FrY_X hJ.2) hK.1, hK.2⟩
theorem mb_readLine14 (hsh : ShOK sh) (hfx : FxOK F) (hM : Mt I B n p b) (hp : lxB B n p = q) : jS G (d + 8) mX12_readLine [jR (some 170), jI 1, jI 14] (sh, I, F) 0 0 (rEI 0 sh F (fun J => (∃ x, Mt J B n x q) ∧ FrY I J)) := by
  refine jS_go [some (jR (some 170)), some (jI 1), some (jI 14)] (by decide +kernel) rfl (by simp [jone]) (Nat.le_of_ble_eq_true rfl) rfl (fun hok => ?_)
  refine j_aload_n dX12_readLine_0 rfl ?_
  refine r_cv0EV dX12_readLine_1 cvX12_111 (by decide) (by first | assumption | exact hsh _ _ rfl) (Nat.le_of_ble_eq_true rfl) (Nat.le_of_eq (Nat.zero_add _)) (Nat.le_of_eq (Nat.zero_add _)) (mt_lettersQ hsh hfx hM hp) (fun J hJ => ?_)
  refine j_iload_n dX12_readLine_4 rfl ?_
  refine j_iload_n dX12_readLine_5 rfl ?_
  refine j_if_eq (tgt := 14) dX12_readLine_6 rfl (by first | omega | (split <;> omega)) (fun c_6 => by exact absurd c_6 (by decide)) (fun c_6 => ?_)
  refine j_bipush dX12_readLine_9 (by decide) ?_
  refine j_goto (tgt := 16) dX12_readLine_11 rfl ?_
  refine j_icmp_ge (tgt := 45) dX12_readLine_16 rfl (by first | omega | (split <;> omega)) (by first | omega | (split <;> omega)) (fun c_16 => ?_) (fun c_16 => by exact absurd (by decide) c_16)
  refine j_iconst dX12_readLine_45 ?_
  refine j_zret dX12_readLine_46 rfl (by omega) ?_
  exact rEI_of rfl ⟨⟨_, hJ.1⟩, FrY_X hJ.2⟩
/-- how many lines are read, or none -/
def bCnt (B : Int → Int) (n : Int) : Nat → Int → (Int → Int) → Int → Int
  | 0, _, _, _ => -1
  | m + 1, z, w, q => if (bLine B n w q).1 = 0 then -1 else if tkK B n (bLine B n w q).2.1 = 0 then z + 1 else if vSg B n (bLine B n w q).2.1 59 then bCnt B n m (z + 1) (bLine B n w q).2.2 (tkN B n (bLine B n w q).2.1) else -1
theorem bCnt_s {B : Int → Int} {n : Int} : ∀ (m : Nat) (z : Int) (w : Int → Int) (q : Int), 0 ≤ z → z + m ≤ 14 → (bAll B n m w q).1 = 0 ∧ bCnt B n m z w q = -1 ∨ (bAll B n m w q).1 = 1 ∧ 0 ≤ bCnt B n m z w q ∧ bCnt B n m z w q ≤ 14 := by
  intro m
  induction m with
  | zero => intro z w q _ _; exact Or.inl ⟨rfl, rfl⟩
  | succ m ih =>
    intro z w q hz hm
    have h01 := bLine_01 B n w q
    unfold bAll bCnt
    generalize bLine B n w q = R at *
    by_cases c1 : R.1 = 0
    · rw [if_pos c1, if_pos c1]; exact Or.inl ⟨c1, rfl⟩
    · rw [if_neg c1, if_neg c1]
      by_cases c2 : tkK B n R.2.1 = 0
      · rw [if_pos c2, if_pos c2]; exact Or.inr ⟨by omega, by omega, by omega⟩
      · rw [if_neg c2, if_neg c2]
        by_cases c3 : vSg B n R.2.1 59
        · rw [if_pos c3, if_pos c3]; exact ih _ _ _ (by omega) (by omega)
        · rw [if_neg c3, if_neg c3]; exact Or.inl ⟨rfl, rfl⟩
def bTxtN (B : Int → Int) (n : Int) (w : Int → Int) (q : Int) : Int := if tkK B n q = 0 then 0 else bCnt B n 14 0 w q
theorem bTxtN_s (B : Int → Int) (n : Int) (w : Int → Int) (q : Int) : (bTxt B n w q).1 = 0 ∧ bTxtN B n w q = -1 ∨ (bTxt B n w q).1 = 1 ∧ 0 ≤ bTxtN B n w q ∧ bTxtN B n w q ≤ 14 := by
  unfold bTxt bTxtN
  by_cases c : tkK B n q = 0
  · rw [if_pos c, if_pos c]; exact Or.inr ⟨rfl, by decide, by decide⟩
  · rw [if_neg c, if_neg c]; exact bCnt_s 14 0 w q (by decide) (by decide)
/-- what of the model is as it was when a text has been read -/
def FrU (I J : Nat → Int → Int) : Prop := (∀ a, a ≠ 170 → a ≠ 171 → J a = I a) ∧ (∀ k, k ≠ 0 → k ≠ 9 → k ≠ 10 → k ≠ 11 → k ≠ 12 → k ≠ 16 → J 170 k = I 170 k) ∧ (J 170 0 = 0 ∧ J 170 9 = 0) ∧ ∀ k, (k < 0 ∨ 180 ≤ k) → J 171 k = I 171 k
theorem mb_uses (hsh : ShOK sh) (hn : I 170 9 = n) (hn2 : 0 ≤ n ∧ n ≤ 400) : jS G d mX12_uses [jR (some 170)] (sh, I, F) 0 0 (rV (sh, jup (jup (jup (jup I 170 0 0) 170 11 n) 170 9 0) 170 10 0, F)) := by
  have hn' : jup I 170 0 0 170 9 = n := by rw [jup_row _ _ _ (by decide)]; exact hn
  refine jS_go [some (jR (some 170))] (by decide +kernel) rfl (by simp [jone]) (Nat.le_of_ble_eq_true rfl) rfl (fun hok => ?_)
  refine j_aload_n dX12_uses_0 rfl ?_
  refine j_iconst dX12_uses_1 ?_
  refine r_putI dX12_uses_2 flX12_3 rfl (by first | assumption | exact hsh _ _ rfl) (by first | omega | (split <;> omega)) (fun q => by cases q) ?_
  refine j_aload_n dX12_uses_5 rfl ?_
  refine j_aload_n dX12_uses_6 rfl ?_
  refine r_getIE dX12_uses_7 flX12_83 (by first | assumption | exact hsh _ _ rfl) hn' (fun b_7 => ?_)
  refine r_putI dX12_uses_10 flX12_89 rfl (by first | assumption | exact hsh _ _ rfl) (by first | omega | (split <;> omega)) (fun q => by cases q) ?_
  refine j_aload_n dX12_uses_13 rfl ?_
  refine j_iconst dX12_uses_14 ?_
  refine r_putI dX12_uses_15 flX12_83 rfl (by first | assumption | exact hsh _ _ rfl) (by first | omega | (split <;> omega)) (fun q => by cases q) ?_
  refine j_aload_n dX12_uses_18 rfl ?_
  refine j_iconst dX12_uses_19 ?_
  refine r_putI dX12_uses_20 flX12_86 rfl (by first | assumption | exact hsh _ _ rfl) (by first | omega | (split <;> omega)) (fun q => by cases q) ?_
  refine j_vret dX12_uses_23 rfl ?_
  exact rV_of rfl
theorem mb_readAll {ob : Int} (hsh : ShOK sh) (hfx : FxOK F) (hn : I 170 9 = n) (hn2 : 0 ≤ n ∧ n ≤ 400) (hB : ∀ k, 0 ≤ k → k < n → (0 ≤ B k ∧ B k ≤ 255) ∧ I 176 k = sg8 (B k)) (hw : I 171 = w) (hW : OKw ob w) : jS G (d + 9) mX12_readAll [jR (some 170), jI 1] (sh, I, F) 0 0 (rEI (bTxtN B n w (lxB B n 0)) sh F (fun J => FrU I J ∧ ((bTxt B n w (lxB B n 0)).1 = 1 → J 171 = (bTxt B n w (lxB B n 0)).2.2) ∧ ((bTxt B n w (lxB B n 0)).1 = 0 → J 170 12 = (bTxt B n w (lxB B n 0)).2.1))) := by
  obtain ⟨q, hq⟩ : ∃ q, lxB B n 0 = q := ⟨_, rfl⟩
  rw [hq]
  have hqi := lx_le (B := B) (n := n) (lo := 32) (hi := 32) (p := 0) hn2.1
  rw [show lx B n 32 32 0 = q from hq] at hqi
  obtain ⟨I1, hI1⟩ : ∃ I1, I1 = jup (jup (jup (jup (jup I 170 0 0) 170 11 n) 170 9 0) 170 10 0) 170 16 0 := ⟨_, rfl⟩
  have f1 : ∀ a, a ≠ 170 → I1 a = I a := fun a ha => by rw [hI1, jup_ne _ _ _ ha, jup_ne _ _ _ ha, jup_ne _ _ _ ha, jup_ne _ _ _ ha, jup_ne _ _ _ ha]
  have f2 : ∀ k, k ≠ 0 → k ≠ 9 → k ≠ 10 → k ≠ 11 → k ≠ 12 → k ≠ 16 → I1 170 k = I 170 k := fun k x0 x1 x2 x3 x4 x5 => by rw [hI1, jup_row _ _ _ x5, jup_row _ _ _ x2, jup_row _ _ _ x1, jup_row _ _ _ x3, jup_row _ _ _ x0]
  have f3 : I1 170 0 = 0 ∧ I1 170 9 = 0 := ⟨by rw [hI1, jup_row _ _ _ (by decide), jup_row _ _ _ (by decide), jup_row _ _ _ (by decide), jup_row _ _ _ (by decide), jup_same], by rw [hI1, jup_row _ _ _ (by decide), jup_row _ _ _ (by decide), jup_same]⟩
  have hM1 : Mt I1 B n 0 (I1 170 12) := ⟨by rw [hI1, jup_row _ _ _ (by decide), jup_row _ _ _ (by decide), jup_row _ _ _ (by decide), jup_same], by rw [hI1, jup_row _ _ _ (by decide), jup_same], rfl, fun k k0 k1 => by rw [f1 176 (by decide)]; exact hB k k0 k1, ⟨by omega, hn2.1⟩, hn2.2⟩
  have frU : ∀ J : Nat → Int → Int, FrY I1 J → FrU I J := fun J h => ⟨fun a a0 a1 => (h.1 a a0 a1).trans (f1 a a0), fun k x0 x1 x2 x3 x4 x5 => (h.2.1 k x2 x4).trans (f2 k x0 x1 x2 x3 x4 x5), ⟨(h.2.1 0 (by decide) (by decide)).trans f3.1, (h.2.1 9 (by decide) (by decide)).trans f3.2⟩, fun k hk => by rw [h.2.2 k hk, f1 171 (by decide)]⟩
  refine jS_go [some (jR (some 170)), some (jI 1), none] (by decide +kernel) rfl (by simp [jone]) (Nat.le_of_ble_eq_true rfl) rfl (fun hok => ?_)
  generalize hQ : rEI (bTxtN B n w q) sh F (fun J => FrU I J ∧ ((bTxt B n w q).1 = 1 → J 171 = (bTxt B n w q).2.2) ∧ ((bTxt B n w q).1 = 0 → J 170 12 = (bTxt B n w q).2.1)) = Q9
  have hkE : ∀ q, q ≤ n → (q = n ↔ tkK B n q = 0) := fun q hq => by
    have := tkK_in (B := B) (n := n) (q := q)
    rcases this with k | ⟨k0, k | k | k⟩ <;> omega
  have sb := mt_blanks (G := G) (d := d + 7) (F := F) hsh hfx hM1
  rw [hq] at sb
  by_cases c : tkK B n q = 0
  · have e1 : bTxtN B n w q = 0 := if_pos c
    have e2 : bTxt B n w q = (1, q, w) := if_pos c
    rw [e1, e2] at hQ
    have en := (hkE q hqi.2).2 c
    refine j_aload_n dX12_readAll_0 rfl ?_
    refine r_cv0V dX12_readAll_1 cvX12_242 (by decide) (by first | assumption | exact hsh _ _ rfl) (Nat.le_of_ble_eq_true rfl) (Nat.le_of_eq (Nat.zero_add _)) (Nat.le_of_eq (Nat.zero_add _)) (mb_uses hsh hn hn2) ?_
    refine j_aload_n dX12_readAll_4 rfl ?_
    refine j_iconst dX12_readAll_5 ?_
    refine r_putI dX12_readAll_6 flX12_182 rfl (by first | assumption | exact hsh _ _ rfl) (by first | omega | (split <;> omega)) (fun q => by cases q) ?_
    rw [← hI1]
    refine j_aload_n dX12_readAll_9 rfl ?_
    refine r_cv0EV dX12_readAll_10 cvX12_99 (by decide) (by first | assumption | exact hsh _ _ rfl) (Nat.le_of_ble_eq_true rfl) (Nat.le_of_eq (Nat.zero_add _)) (Nat.le_of_eq (Nat.zero_add _)) (sb) (fun J hJ => ?_)
    have j2 := hJ.1.2.1
    have j1 := hJ.1.1
    refine j_aload_n dX12_readAll_13 rfl ?_
    refine r_getIE dX12_readAll_14 flX12_86 (by first | assumption | exact hsh _ _ rfl) j2 (fun b_14 => ?_)
    refine j_aload_n dX12_readAll_17 rfl ?_
    refine r_getIE dX12_readAll_18 flX12_89 (by first | assumption | exact hsh _ _ rfl) j1 (fun b_18 => ?_)
    refine j_icmp_ne (tgt := 26) dX12_readAll_21 rfl (by first | omega | (split <;> omega)) (by first | omega | (split <;> omega)) (fun c_21 => by exact absurd en c_21) (fun c_21 => ?_)
    refine j_iconst dX12_readAll_24 ?_
    refine j_iret dX12_readAll_25 rfl ?_
    rw [← hQ]
    exact rEI_of rfl ⟨frU J (FrY_X hJ.2), fun _ => by rw [FrX_171 hJ.2, f1 171 (by decide)]; exact hw, fun h => absurd h (show ¬ (1 : Int) = 0 by decide)⟩
  · have e1 : bTxtN B n w q = bCnt B n 14 0 w q := if_neg c
    have e2 : bTxt B n w q = bAll B n 14 w q := if_neg c
    rw [e1, e2] at hQ
    have en : ¬ q = n := fun x => c ((hkE q hqi.2).1 x)
    have key : ∀ (m : Nat) (z : Int) (ob : Int) (w : Int → Int) (p b q : Int) (J : Nat → Int → Int), z + m = 14 → 0 ≤ z → OKw ob w → Mt J B n p b → lxB B n p = q → J 171 = w → FrY I1 J → jW G mX12_readAll (d + 9) (rEI (bCnt B n m z w q) sh F (fun J => FrU I J ∧ ((bAll B n m w q).1 = 1 → J 171 = (bAll B n m w q).2.2) ∧ ((bAll B n m w q).1 = 0 → J 170 12 = (bAll B n m w q).2.1))) 28 [some (jR (some 170)), some (jI 1), some (jI z)] [] (sh, J, F) 0 0 := by
      intro m
      induction m with
      | zero =>
        intro z ob w p b q J hz hz0 hW hMJ hp hJw hf
        have ez : z = 14 := by omega
        subst ez
        refine j_aload_n dX12_readAll_28 rfl ?_
        refine j_iload_n dX12_readAll_29 rfl ?_
        refine j_iload_n dX12_readAll_30 rfl ?_
        refine r_cv2EI dX12_readAll_31 cvX12_245 (by decide) (by first | assumption | exact hsh _ _ rfl) (Nat.le_of_ble_eq_true rfl) (Nat.le_of_eq (Nat.zero_add _)) (Nat.le_of_eq (Nat.zero_add _)) (mb_readLine14 hsh hfx hMJ hp) (fun K hK => ?_)
        refine j_if_ne (tgt := 39) dX12_readAll_34 rfl (by first | omega | (split <;> omega)) (fun c_34 => by exact absurd c_34 (by decide)) (fun c_34 => ?_)
        refine j_iconst dX12_readAll_37 ?_
        refine j_iret dX12_readAll_38 rfl ?_
        obtain ⟨⟨x, hx⟩, hfK⟩ := hK
        exact rEI_of rfl ⟨frU K (FrY_tr hf hfK), fun h => absurd h (show ¬ (0 : Int) = 1 by decide), fun _ => hx.2.2.1⟩
      | succ m ih =>
        intro z ob w p b q J hz hz0 hW hMJ hp hJw hf
        have h5 := hMJ.2.2.2.2.1
        have hqi := lx_le (B := B) (n := n) (lo := 32) (hi := 32) (p := p) h5.2
        rw [show lx B n 32 32 p = q from hp] at hqi
        have sL := mb_readLine (G := G) (d := d) hsh hfx hMJ hp hJw hW.1.1 (WF_A hW.1) (z := z) (by omega)
        have hl := OKw_line (B := B) (n := n) hW hqi.2
        have hlq := bLine_q (B := B) (n := n) (w := w) hqi.2
        have h01 := bLine_01 B n w q
        have hb : bAll B n (m + 1) w q = if (bLine B n w q).1 = 0 then bLine B n w q else if tkK B n (bLine B n w q).2.1 = 0 then bLine B n w q else if vSg B n (bLine B n w q).2.1 59 then bAll B n m (bLine B n w q).2.2 (tkN B n (bLine B n w q).2.1) else (0, (bLine B n w q).2) := rfl
        have hc : bCnt B n (m + 1) z w q = if (bLine B n w q).1 = 0 then -1 else if tkK B n (bLine B n w q).2.1 = 0 then z + 1 else if vSg B n (bLine B n w q).2.1 59 then bCnt B n m (z + 1) (bLine B n w q).2.2 (tkN B n (bLine B n w q).2.1) else -1 := rfl
        rw [hb, hc]
        generalize bLine B n w q = R at *
        by_cases c1 : R.1 = 0
        · rw [if_pos c1, if_pos c1]
          rw [c1] at sL
          refine j_aload_n dX12_readAll_28 rfl ?_
          refine j_iload_n dX12_readAll_29 rfl ?_
          refine j_iload_n dX12_readAll_30 rfl ?_
          refine r_cv2EI dX12_readAll_31 cvX12_245 (by decide) (by first | assumption | exact hsh _ _ rfl) (Nat.le_of_ble_eq_true rfl) (Nat.le_of_eq (Nat.zero_add _)) (Nat.le_of_eq (Nat.zero_add _)) (sL) (fun K hK => ?_)
          refine j_if_ne (tgt := 39) dX12_readAll_34 rfl (by first | omega | (split <;> omega)) (fun c_34 => by exact absurd c_34 (by decide)) (fun c_34 => ?_)
          refine j_iconst dX12_readAll_37 ?_
          refine j_iret dX12_readAll_38 rfl ?_
          obtain ⟨hfK, -, h0⟩ := hK
          obtain ⟨x, hx⟩ := h0 c1
          exact rEI_of rfl ⟨frU K (FrY_tr hf hfK), fun h => by omega, fun _ => hx.2.2.1⟩
        · rw [if_neg c1, if_neg c1]
          have c1' : R.1 = 1 := by omega
          rw [c1'] at sL
          have sB := fun (K : Nat → Int → Int) (p2 b2 : Int) (hK : Mt K B n p2 b2) (hp2 : lxB B n p2 = R.2.1) => by
            have := mt_blanks (G := G) (d := d + 7) (F := F) hsh hfx hK
            rw [hp2] at this
            exact this
          by_cases c2 : tkK B n R.2.1 = 0
          · rw [if_pos c2, if_pos c2]
            have en2 := (hkE R.2.1 hlq.2).2 c2
            refine j_aload_n dX12_readAll_28 rfl ?_
            refine j_iload_n dX12_readAll_29 rfl ?_
            refine j_iload_n dX12_readAll_30 rfl ?_
            refine r_cv2EI dX12_readAll_31 cvX12_245 (by decide) (by first | assumption | exact hsh _ _ rfl) (Nat.le_of_ble_eq_true rfl) (Nat.le_of_eq (Nat.zero_add _)) (Nat.le_of_eq (Nat.zero_add _)) (sL) (fun K hK => ?_)
            obtain ⟨hfK, h1, -⟩ := hK
            obtain ⟨p2, b2, hM2, hp2, hw2⟩ := h1 c1'
            refine j_if_ne (tgt := 39) dX12_readAll_34 rfl (by first | omega | (split <;> omega)) (fun c_34 => ?_) (fun c_34 => by exact absurd c_34 (by decide))
            refine j_aload_n dX12_readAll_39 rfl ?_
            refine r_cv0EV dX12_readAll_40 cvX12_99 (by decide) (by first | assumption | exact hsh _ _ rfl) (Nat.le_of_ble_eq_true rfl) (Nat.le_of_eq (Nat.zero_add _)) (Nat.le_of_eq (Nat.zero_add _)) (sB K p2 b2 hM2 hp2) (fun L hL => ?_)
            have j2 := hL.1.2.1
            have j1 := hL.1.1
            refine j_aload_n dX12_readAll_43 rfl ?_
            refine r_getIE dX12_readAll_44 flX12_86 (by first | assumption | exact hsh _ _ rfl) j2 (fun b_44 => ?_)
            refine j_aload_n dX12_readAll_47 rfl ?_
            refine r_getIE dX12_readAll_48 flX12_89 (by first | assumption | exact hsh _ _ rfl) j1 (fun b_48 => ?_)
            refine j_icmp_ne (tgt := 58) dX12_readAll_51 rfl (by first | omega | (split <;> omega)) (by first | omega | (split <;> omega)) (fun c_51 => by exact absurd en2 c_51) (fun c_51 => ?_)
            refine j_iload_n dX12_readAll_54 rfl ?_
            refine j_iconst dX12_readAll_55 ?_
            refine j_iadd dX12_readAll_56 ?_
            refine j_iret dX12_readAll_57 rfl ?_
            exact rEI_of rfl ⟨frU L (FrY_tr hf (FrY_tr hfK (FrY_X hL.2))), fun _ => (FrX_171 hL.2).trans hw2, fun h => by omega⟩
          · rw [if_neg c2, if_neg c2]
            have en2 : ¬ R.2.1 = n := fun x => c2 ((hkE R.2.1 hlq.2).1 x)
            by_cases c3 : vSg B n R.2.1 59
            · rw [if_pos c3, if_pos c3]
              have c4 := (sg_iff (B := B) (n := n) (q := R.2.1) (c := 59) (by decide)).1 c3
              have eE : tkE B n R.2.1 = R.2.1 + 1 := by
                have e59 : B R.2.1 = 59 := by omega
                unfold tkE; rw [if_pos c4.1, e59, if_neg (by decide), if_neg (by decide)]
              refine j_aload_n dX12_readAll_28 rfl ?_
              refine j_iload_n dX12_readAll_29 rfl ?_
              refine j_iload_n dX12_readAll_30 rfl ?_
              refine r_cv2EI dX12_readAll_31 cvX12_245 (by decide) (by first | assumption | exact hsh _ _ rfl) (Nat.le_of_ble_eq_true rfl) (Nat.le_of_eq (Nat.zero_add _)) (Nat.le_of_eq (Nat.zero_add _)) (sL) (fun K hK => ?_)
              obtain ⟨hfK, h1, -⟩ := hK
              obtain ⟨p2, b2, hM2, hp2, hw2⟩ := h1 c1'
              refine j_if_ne (tgt := 39) dX12_readAll_34 rfl (by first | omega | (split <;> omega)) (fun c_34 => ?_) (fun c_34 => by exact absurd c_34 (by decide))
              refine j_aload_n dX12_readAll_39 rfl ?_
              refine r_cv0EV dX12_readAll_40 cvX12_99 (by decide) (by first | assumption | exact hsh _ _ rfl) (Nat.le_of_ble_eq_true rfl) (Nat.le_of_eq (Nat.zero_add _)) (Nat.le_of_eq (Nat.zero_add _)) (sB K p2 b2 hM2 hp2) (fun L hL => ?_)
              have j2 := hL.1.2.1
              have j1 := hL.1.1
              have sa := mt_isAt (G := G) (d := d + 8) (F := F) hsh hfx hL.1 (lo := 59) (hi := 59) (by decide) (by decide) (by decide) (by decide)
              rw [if_pos c4] at sa
              refine j_aload_n dX12_readAll_43 rfl ?_
              refine r_getIE dX12_readAll_44 flX12_86 (by first | assumption | exact hsh _ _ rfl) j2 (fun b_44 => ?_)
              refine j_aload_n dX12_readAll_47 rfl ?_
              refine r_getIE dX12_readAll_48 flX12_89 (by first | assumption | exact hsh _ _ rfl) j1 (fun b_48 => ?_)
              refine j_icmp_ne (tgt := 58) dX12_readAll_51 rfl (by first | omega | (split <;> omega)) (by first | omega | (split <;> omega)) (fun c_51 => ?_) (fun c_51 => by exact absurd (Classical.not_not.1 c_51) en2)
              refine j_aload_n dX12_readAll_58 rfl ?_
              refine j_bipush dX12_readAll_59 (by decide) ?_
              refine j_bipush dX12_readAll_61 (by decide) ?_
              refine r_cv2I dX12_readAll_63 cvX12_92 (by decide) (by first | assumption | exact hsh _ _ rfl) (Nat.le_of_ble_eq_true rfl) (Nat.le_of_eq (Nat.zero_add _)) (Nat.le_of_eq (Nat.zero_add _)) (sa) ?_
              refine j_if_ne (tgt := 71) dX12_readAll_66 rfl (by first | omega | (split <;> omega)) (fun c_66 => ?_) (fun c_66 => by exact absurd c_66 (by decide))
              refine j_aload_n dX12_readAll_71 rfl ?_
              refine j_dup dX12_readAll_72 trivial ?_
              refine r_getIE dX12_readAll_73 flX12_86 (by first | assumption | exact hsh _ _ rfl) j2 (fun b_73 => ?_)
              refine j_iconst dX12_readAll_76 ?_
              refine j_iadd dX12_readAll_77 ?_
              refine r_putI dX12_readAll_78 flX12_86 rfl (by first | assumption | exact hsh _ _ rfl) (by first | omega | (split <;> omega)) (fun q => by cases q) ?_
              refine j_iinc dX12_readAll_81 rfl (by decide) ?_
              refine j_goto (tgt := 28) dX12_readAll_84 rfl ?_
              exact ih (z + 1) _ _ (R.2.1 + 1) R.2.1 _ _ (by omega) (by omega) hl (Mt_10 hL.1 (by omega)) (by rw [← eE]) (by rw [jup_ne _ _ _ (by decide)]; exact (FrX_171 hL.2).trans hw2) (FrY_tr hf (FrY_tr hfK (FrY_tr (FrY_X hL.2) (FrY_X (FrX_up FrX_0 (Or.inl rfl))))))
            · rw [if_neg c3, if_neg c3]
              have c4 : ¬ (R.2.1 < n ∧ 59 ≤ B R.2.1 ∧ B R.2.1 ≤ 59) := fun x => c3 ((sg_iff (B := B) (n := n) (q := R.2.1) (c := 59) (by decide)).2 x)
              refine j_aload_n dX12_readAll_28 rfl ?_
              refine j_iload_n dX12_readAll_29 rfl ?_
              refine j_iload_n dX12_readAll_30 rfl ?_
              refine r_cv2EI dX12_readAll_31 cvX12_245 (by decide) (by first | assumption | exact hsh _ _ rfl) (Nat.le_of_ble_eq_true rfl) (Nat.le_of_eq (Nat.zero_add _)) (Nat.le_of_eq (Nat.zero_add _)) (sL) (fun K hK => ?_)
              obtain ⟨hfK, h1, -⟩ := hK
              obtain ⟨p2, b2, hM2, hp2, hw2⟩ := h1 c1'
              refine j_if_ne (tgt := 39) dX12_readAll_34 rfl (by first | omega | (split <;> omega)) (fun c_34 => ?_) (fun c_34 => by exact absurd c_34 (by decide))
              refine j_aload_n dX12_readAll_39 rfl ?_
              refine r_cv0EV dX12_readAll_40 cvX12_99 (by decide) (by first | assumption | exact hsh _ _ rfl) (Nat.le_of_ble_eq_true rfl) (Nat.le_of_eq (Nat.zero_add _)) (Nat.le_of_eq (Nat.zero_add _)) (sB K p2 b2 hM2 hp2) (fun L hL => ?_)
              have j2 := hL.1.2.1
              have j1 := hL.1.1
              have sa := mt_isAt (G := G) (d := d + 8) (F := F) hsh hfx hL.1 (lo := 59) (hi := 59) (by decide) (by decide) (by decide) (by decide)
              rw [if_neg c4] at sa
              refine j_aload_n dX12_readAll_43 rfl ?_
              refine r_getIE dX12_readAll_44 flX12_86 (by first | assumption | exact hsh _ _ rfl) j2 (fun b_44 => ?_)
              refine j_aload_n dX12_readAll_47 rfl ?_
              refine r_getIE dX12_readAll_48 flX12_89 (by first | assumption | exact hsh _ _ rfl) j1 (fun b_48 => ?_)
              refine j_icmp_ne (tgt := 58) dX12_readAll_51 rfl (by first | omega | (split <;> omega)) (by first | omega | (split <;> omega)) (fun c_51 => ?_) (fun c_51 => by exact absurd (Classical.not_not.1 c_51) en2)
              refine j_aload_n dX12_readAll_58 rfl ?_
              refine j_bipush dX12_readAll_59 (by decide) ?_
              refine j_bipush dX12_readAll_61 (by decide) ?_
              refine r_cv2I dX12_readAll_63 cvX12_92 (by decide) (by first | assumption | exact hsh _ _ rfl) (Nat.le_of_ble_eq_true rfl) (Nat.le_of_eq (Nat.zero_add _)) (Nat.le_of_eq (Nat.zero_add _)) (sa) ?_
              refine j_if_ne (tgt := 71) dX12_readAll_66 rfl (by first | omega | (split <;> omega)) (fun c_66 => by exact absurd c_66 (by decide)) (fun c_66 => ?_)
              refine j_iconst dX12_readAll_69 ?_
              refine j_iret dX12_readAll_70 rfl ?_
              exact rEI_of rfl ⟨frU L (FrY_tr hf (FrY_tr hfK (FrY_X hL.2))), fun h => absurd h (show ¬ (0 : Int) = 1 by decide), fun _ => hL.1.2.2.1⟩
    have k0 := fun J hM hw hf => key 14 0 ob w q q q J (by omega) (by omega) hW hM (by rw [← hq]; exact lx_idem hn2.1) hw hf
    rw [hQ] at k0
    refine j_aload_n dX12_readAll_0 rfl ?_
    refine r_cv0V dX12_readAll_1 cvX12_242 (by decide) (by first | assumption | exact hsh _ _ rfl) (Nat.le_of_ble_eq_true rfl) (Nat.le_of_eq (Nat.zero_add _)) (Nat.le_of_eq (Nat.zero_add _)) (mb_uses hsh hn hn2) ?_
    refine j_aload_n dX12_readAll_4 rfl ?_
    refine j_iconst dX12_readAll_5 ?_
    refine r_putI dX12_readAll_6 flX12_182 rfl (by first | assumption | exact hsh _ _ rfl) (by first | omega | (split <;> omega)) (fun q => by cases q) ?_
    rw [← hI1]
    refine j_aload_n dX12_readAll_9 rfl ?_
    refine r_cv0EV dX12_readAll_10 cvX12_99 (by decide) (by first | assumption | exact hsh _ _ rfl) (Nat.le_of_ble_eq_true rfl) (Nat.le_of_eq (Nat.zero_add _)) (Nat.le_of_eq (Nat.zero_add _)) (sb) (fun J hJ => ?_)
    have j2 := hJ.1.2.1
    have j1 := hJ.1.1
    refine j_aload_n dX12_readAll_13 rfl ?_
    refine r_getIE dX12_readAll_14 flX12_86 (by first | assumption | exact hsh _ _ rfl) j2 (fun b_14 => ?_)
    refine j_aload_n dX12_readAll_17 rfl ?_
    refine r_getIE dX12_readAll_18 flX12_89 (by first | assumption | exact hsh _ _ rfl) j1 (fun b_18 => ?_)
    refine j_icmp_ne (tgt := 26) dX12_readAll_21 rfl (by first | omega | (split <;> omega)) (by first | omega | (split <;> omega)) (fun c_21 => ?_) (fun c_21 => by exact absurd (Classical.not_not.1 c_21) en)
    refine j_iconst dX12_readAll_26 ?_
    refine j_istore_n dX12_readAll_27 (by decide) ?_
    exact k0 J hJ.1 (by rw [FrX_171 hJ.2, f1 171 (by decide)]; exact hw) (FrY_X hJ.2)
end
