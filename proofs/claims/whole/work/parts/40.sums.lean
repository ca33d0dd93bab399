/-! A LAW'S LINES IN THE CLASS; SUMS -/
def jCode (st arg : Int) : Int := if st = 7 then arg else if st ≤ 6 then 1000 + st else if st = 8 then 1007 else if st = 9 then 1008 else if st = 10 then 1009 else if st = 11 then 1012 else if st = 12 then 1010 else 1011
def LawAt (sh : List (Nat × Nat)) (I : Nat → Int → Int) (F : Nat → Int → Option Nat) (l : Nat) (w : Int → Int) : Prop := sh[l]? = some (2, 0) ∧ 185 ≤ l ∧ ∃ la ls lc n : Nat, (F l 2 = some la ∧ F l 3 = some ls ∧ F l 4 = some lc) ∧ (185 ≤ la ∧ 185 ≤ ls ∧ 185 ≤ lc) ∧ (sh[la]? = some (11, 12) ∧ sh[ls]? = some (11, 13) ∧ sh[lc]? = some (11, n)) ∧ I l 0 = w 420 ∧
  ∀ k, 0 ≤ k → k < w 420 → (jbit (I l 1) k ↔ w (421 + 4 * k) = 0) ∧ I la k = w (421 + 4 * k + 1) ∧ I ls k = w (421 + 4 * k + 2) ∧ I ls (k + 1) = w (421 + 4 * k + 3) ∧ w (421 + 4 * k + 3) ≤ n ∧ ∀ i, 0 ≤ i → w (421 + 4 * k + 2) ≤ i → i < w (421 + 4 * k + 3) → I lc i = jCode (aStp w i) (aArg w i)
/-- what the course looks at -/
def CtxC (I : Nat → Int → Int) (w : Int → Int) (p pain wet : Int) : Prop := I 160 6 = p ∧ I 161 p = pain ∧ I 160 8 = aOf w p 1 ∧ I 160 7 = aOf w p 0 ∧ I 160 9 = w 3 ∧ I 160 5 = wet
theorem jAnd_one (x : Int) : jAnd x 1 = 0 ∨ jAnd x 1 = 1 := by
  have e : Int32.ofInt x = nI (Int32.ofInt x).toBitVec.toNat := by
    apply Int32.toBitVec_inj.1
    show (Int32.ofInt x).toBitVec = BitVec.ofNat 32 _
    rw [BitVec.ofNat_toNat, BitVec.setWidth_eq]
  unfold jAnd
  rw [e, show Int32.ofInt 1 = nI 1 from rfl, fa_and, Nat.and_one_is_mod, nI_toInt (Nat.lt_of_lt_of_le (Nat.mod_lt _ (by decide)) (by decide))]
  omega
theorem jand01 {a b : Int} (ha : 0 ≤ a ∧ a ≤ 1) (hb : 0 ≤ b ∧ b ≤ 1) : jAnd a b = (if a + b = 2 then 1 else 0) ∧ jOr a b = (if 0 < a + b then 1 else 0) := by
  have h1 : a = 0 ∨ a = 1 := by omega
  have h2 : b = 0 ∨ b = 1 := by omega
  rcases h1 with rfl | rfl <;> rcases h2 with rfl | rfl <;> decide +kernel
section
variable {G : jzG} {d : Nat} {sh : List (Nat × Nat)} {I : Nat → Int → Int} {F : Nat → Int → Option Nat} {w : Int → Int}
theorem sc_valueOf (hsh : ShOK sh) (hfx : FxOK F) {st arg p pain wet : Int} (hC : CtxC I w p pain wet) (hv : vFact w p pain wet) (h0 : 0 ≤ st ∧ st ≤ 7) (ha : st = 7 → 0 ≤ arg ∧ arg ≤ 999) : jS G d mX2_valueOf [jR (some 160), jI (jCode st arg)] (sh, I, F) 0 0 (rI (if st = 7 then arg else mFact w p pain wet st) (sh, I, F)) := by
  obtain ⟨c1, c2, c3, c4, c5, c6⟩ := hC
  obtain ⟨v1, v2, v3, v4, v5, v6⟩ := hv
  refine jS_go [some (jR (some 160)), some (jI (jCode st arg))] (by decide +kernel) rfl (by simp [jone]) (Nat.le_of_ble_eq_true rfl) rfl (fun hok => ?_)
  refine j_iload_n dX2_valueOf_0 rfl ?_
  have : st = 0 ∨ st = 1 ∨ st = 2 ∨ st = 3 ∨ st = 4 ∨ st = 5 ∨ st = 6 ∨ st = 7 := by omega
  rcases this with rfl | rfl | rfl | rfl | rfl | rfl | rfl | rfl
  · rw [show jCode 0 arg = 1000 from rfl]
    refine j_tswIn (tgt := 44) dX2_valueOf_1 (by omega) (by decide) (by decide) rfl rfl ?_
    refine j_aload_n dX2_valueOf_44 rfl ?_
    refine r_getIE dX2_valueOf_45 flX2_104 (by first | assumption | exact hsh _ _ rfl) c1 (fun b_45 => ?_)
    refine j_iret dX2_valueOf_48 rfl ?_
    exact rI_of rfl rfl
  · rw [show jCode 1 arg = 1001 from rfl]
    refine j_tswIn (tgt := 49) dX2_valueOf_1 (by omega) (by decide) (by decide) rfl rfl ?_
    refine j_aload_n dX2_valueOf_49 rfl ?_
    refine r_getIE dX2_valueOf_50 flX2_104 (by first | assumption | exact hsh _ _ rfl) c1 (fun b_50 => ?_)
    refine j_if_lt (tgt := 77) dX2_valueOf_53 rfl (by first | omega | (split <;> omega)) (fun c_53 => by exact absurd c_53 (by omega)) (fun c_53 => ?_)
    refine j_aload_n dX2_valueOf_56 rfl ?_
    refine r_getIE dX2_valueOf_57 flX2_104 (by first | assumption | exact hsh _ _ rfl) c1 (fun b_57 => ?_)
    refine j_bipush dX2_valueOf_60 (by decide) ?_
    refine j_icmp_ge (tgt := 77) dX2_valueOf_62 rfl (by first | omega | (split <;> omega)) (by first | omega | (split <;> omega)) (fun c_62 => by exact absurd c_62 (by omega)) (fun c_62 => ?_)
    refine j_aload_n dX2_valueOf_65 rfl ?_
    refine r_getS dX2_valueOf_66 flX2_9 (by first | assumption | exact hsh _ _ rfl) (fx_160_0 hfx) ?_
    refine j_aload_n dX2_valueOf_69 rfl ?_
    refine r_getIE dX2_valueOf_70 flX2_104 (by first | assumption | exact hsh _ _ rfl) c1 (fun b_70 => ?_)
    refine r_ialoadE dX2_valueOf_73 (by first | assumption | exact hsh _ _ rfl) (by first | omega | (split <;> omega)) (by first | omega | (split <;> omega)) c2 (fun b_73 => ?_)
    refine j_goto (tgt := 78) dX2_valueOf_74 rfl ?_
    refine j_iret dX2_valueOf_78 rfl ?_
    exact rI_of rfl rfl
  · rw [show jCode 2 arg = 1002 from rfl]
    refine j_tswIn (tgt := 79) dX2_valueOf_1 (by omega) (by decide) (by decide) rfl rfl ?_
    refine j_aload_n dX2_valueOf_79 rfl ?_
    refine r_getIE dX2_valueOf_80 flX2_107 (by first | assumption | exact hsh _ _ rfl) c3 (fun b_80 => ?_)
    refine j_iret dX2_valueOf_83 rfl ?_
    exact rI_of rfl rfl
  · rw [show jCode 3 arg = 1003 from rfl]
    refine j_tswIn (tgt := 84) dX2_valueOf_1 (by omega) (by decide) (by decide) rfl rfl ?_
    refine j_aload_n dX2_valueOf_84 rfl ?_
    refine r_getIE dX2_valueOf_85 flX2_110 (by first | assumption | exact hsh _ _ rfl) c4 (fun b_85 => ?_)
    refine j_iret dX2_valueOf_88 rfl ?_
    exact rI_of rfl rfl
  · rw [show jCode 4 arg = 1004 from rfl]
    refine j_tswIn (tgt := 89) dX2_valueOf_1 (by omega) (by decide) (by decide) rfl rfl ?_
    refine j_aload_n dX2_valueOf_89 rfl ?_
    refine r_getIE dX2_valueOf_90 flX2_33 (by first | assumption | exact hsh _ _ rfl) c5 (fun b_90 => ?_)
    refine j_iret dX2_valueOf_93 rfl ?_
    exact rI_of rfl rfl
  · rw [show jCode 5 arg = 1005 from rfl]
    refine j_tswIn (tgt := 94) dX2_valueOf_1 (by omega) (by decide) (by decide) rfl rfl ?_
    refine j_aload_n dX2_valueOf_94 rfl ?_
    refine r_getIE dX2_valueOf_95 flX2_41 (by first | assumption | exact hsh _ _ rfl) c6 (fun b_95 => ?_)
    refine j_if_eq (tgt := 105) dX2_valueOf_98 rfl (by first | omega | (split <;> omega)) (fun c_98 => ?_) (fun c_98 => ?_)
    · refine j_iconst dX2_valueOf_105 ?_
      refine j_iret dX2_valueOf_106 rfl ?_
      exact rI_of (by show _ = wet; omega) rfl
    · refine j_iconst dX2_valueOf_101 ?_
      refine j_goto (tgt := 106) dX2_valueOf_102 rfl ?_
      refine j_iret dX2_valueOf_106 rfl ?_
      exact rI_of (by show _ = wet; omega) rfl
  · rw [show jCode 6 arg = 1006 from rfl]
    refine j_tswIn (tgt := 107) dX2_valueOf_1 (by omega) (by decide) (by decide) rfl rfl ?_
    refine j_aload_n dX2_valueOf_107 rfl ?_
    refine r_getIE dX2_valueOf_108 flX2_33 (by first | assumption | exact hsh _ _ rfl) c5 (fun b_108 => ?_)
    refine j_bipush dX2_valueOf_111 (by decide) ?_
    refine r_iremN dX2_valueOf_113 (by first | omega | (split <;> omega)) (by first | omega | (split <;> omega)) ?_
    refine j_bipush dX2_valueOf_114 (by decide) ?_
    refine j_icmp_ne (tgt := 123) dX2_valueOf_116 rfl (by first | omega | (split <;> omega)) (by first | omega | (split <;> omega)) (fun c_116 => ?_) (fun c_116 => ?_)
    · refine j_iconst dX2_valueOf_123 ?_
      refine j_iret dX2_valueOf_124 rfl ?_
      exact rI_of (by show _ = if w 3 % 7 = 6 then (1 : Int) else 0; split <;> omega) rfl
    · refine j_iconst dX2_valueOf_119 ?_
      refine j_goto (tgt := 124) dX2_valueOf_120 rfl ?_
      refine j_iret dX2_valueOf_124 rfl ?_
      exact rI_of (by show _ = if w 3 % 7 = 6 then (1 : Int) else 0; split <;> omega) rfl
  · have := ha rfl
    rw [show jCode 7 arg = arg from rfl]
    refine j_tswOut (tgt := 125) dX2_valueOf_1 (by omega) (by omega) rfl ?_
    refine j_iload_n dX2_valueOf_125 rfl ?_
    refine j_iret dX2_valueOf_126 rfl ?_
    exact rI_of rfl rfl
theorem sc_joined {st arg a b : Int} (h : st = 8 ∨ st = 9 ∨ st = 10 ∨ ((st = 12 ∨ st = 13) ∧ a ≤ 1 ∧ b ≤ 1)) (ha : 0 ≤ a ∧ a ≤ 100000000) (hb : 0 ≤ b ∧ b ≤ 100000000) : jS G d mX5_joined [jI (jCode st arg), jI a, jI b] (sh, I, F) 0 0 (rI (if st = 8 then a + b else if st = 9 then (if a < b then 1 else 0) else if st = 10 then (if b < a then 1 else 0) else if st = 12 then (if a + b = 2 then 1 else 0) else (if 0 < a + b then 1 else 0)) (sh, I, F)) := by
  refine jS_go [some (jI (jCode st arg)), some (jI a), some (jI b)] (by decide +kernel) rfl (by simp [jone]) (Nat.le_of_ble_eq_true rfl) rfl (fun hok => ?_)
  refine j_iload_n dX5_joined_0 rfl ?_
  rcases h with rfl | rfl | rfl | ⟨rfl | rfl, q1, q2⟩
  · rw [show jCode 8 arg = 1007 from rfl]
    refine j_tswIn (tgt := 32) dX5_joined_1 (by omega) (by decide) (by decide) rfl rfl ?_
    refine j_iload_n dX5_joined_32 rfl ?_
    refine j_iload_n dX5_joined_33 rfl ?_
    refine j_iadd dX5_joined_34 ?_
    refine j_iret dX5_joined_35 rfl ?_
    exact rI_of rfl rfl
  · rw [show jCode 9 arg = 1008 from rfl]
    refine j_tswIn (tgt := 36) dX5_joined_1 (by omega) (by decide) (by decide) rfl rfl ?_
    refine j_iload_n dX5_joined_36 rfl ?_
    refine j_iload_n dX5_joined_37 rfl ?_
    refine j_icmp_ge (tgt := 45) dX5_joined_38 rfl (by first | omega | (split <;> omega)) (by first | omega | (split <;> omega)) (fun c_38 => ?_) (fun c_38 => ?_)
    · refine j_iconst dX5_joined_45 ?_
      refine j_iret dX5_joined_46 rfl ?_
      exact rI_of (by show _ = if a < b then (1 : Int) else 0; split <;> omega) rfl
    · refine j_iconst dX5_joined_41 ?_
      refine j_goto (tgt := 46) dX5_joined_42 rfl ?_
      refine j_iret dX5_joined_46 rfl ?_
      exact rI_of (by show _ = if a < b then (1 : Int) else 0; split <;> omega) rfl
  · rw [show jCode 10 arg = 1009 from rfl]
    refine j_tswIn (tgt := 47) dX5_joined_1 (by omega) (by decide) (by decide) rfl rfl ?_
    refine j_iload_n dX5_joined_47 rfl ?_
    refine j_iload_n dX5_joined_48 rfl ?_
    refine j_icmp_le (tgt := 56) dX5_joined_49 rfl (by first | omega | (split <;> omega)) (by first | omega | (split <;> omega)) (fun c_49 => ?_) (fun c_49 => ?_)
    · refine j_iconst dX5_joined_56 ?_
      refine j_iret dX5_joined_57 rfl ?_
      exact rI_of (by show _ = if b < a then (1 : Int) else 0; split <;> omega) rfl
    · refine j_iconst dX5_joined_52 ?_
      refine j_goto (tgt := 57) dX5_joined_53 rfl ?_
      refine j_iret dX5_joined_57 rfl ?_
      exact rI_of (by show _ = if b < a then (1 : Int) else 0; split <;> omega) rfl
  · rw [show jCode 12 arg = 1010 from rfl]
    refine j_tswIn (tgt := 58) dX5_joined_1 (by omega) (by decide) (by decide) rfl rfl ?_
    refine j_iload_n dX5_joined_58 rfl ?_
    refine j_iload_n dX5_joined_59 rfl ?_
    refine r_iand dX5_joined_60 (fun b_60 => ?_)
    refine j_iret dX5_joined_61 rfl ?_
    exact rI_of (jand01 (by omega) (by omega)).1 rfl
  · rw [show jCode 13 arg = 1011 from rfl]
    refine j_tswOut (tgt := 62) dX5_joined_1 (by omega) (by decide) rfl ?_
    refine j_iload_n dX5_joined_62 rfl ?_
    refine j_iload_n dX5_joined_63 rfl ?_
    refine r_ior dX5_joined_64 (fun b_64 => ?_)
    refine j_iret dX5_joined_65 rfl ?_
    exact rI_of (jand01 (by omega) (by omega)).2 rfl
theorem CtxC_fr {I I' : Nat → Int → Int} {w : Int → Int} {p pain wet : Int} (h : CtxC I w p pain wet) (hfr : Fr1 165 I I') : CtxC I' w p pain wet := by
  unfold CtxC
  rw [hfr 160 (by decide), hfr 161 (by decide)]
  exact h
theorem sc_holds (hsh : ShOK sh) (hfx : FxOK F) {l : Nat} {n p pain wet : Int} (hl : LawAt sh I F l w) (hn : 0 ≤ n ∧ n < w 420) (hn2 : n < 12) (hL : WfLn w n) (hv : vFact w p pain wet) (hC : CtxC I w p pain wet) : jS G (d + 2) mX5_holds [jR (some l), jI n, jR (some 160)] (sh, I, F) 0 0 (rEI (if mHolds w n p pain wet then 1 else 0) sh F (Fr1 165 I)) := by
  obtain ⟨a1, a0, la, ls, lc, nc, ⟨f1, f2, f3⟩, ⟨p1, p2, p3⟩, ⟨s1, s2, s3⟩, a2, a3⟩ := hl
  obtain ⟨-, -, b1, b2, b3, b4⟩ := a3 n hn.1 hn.2
  obtain ⟨⟨l1, l2, l3⟩, l4, l5, ⟨T9, l6, l7⟩, l8⟩ := id hL
  have hfa := mFact_in hv
  obtain ⟨v1, v2, v3, v4, v5, v6⟩ := id hv
  have g165 : sh[165]? = some (11, 64) := hsh _ _ rfl
  refine jS_go [some (jR (some l)), some (jI n), some (jR (some 160)), none, none, none, none] (by decide +kernel) rfl (by simp [jone]) (Nat.le_of_ble_eq_true rfl) rfl (fun hok => ?_)
  have key : ∀ (m : Nat) (i : Int) (T : List Bool) (V : List Int) (I' : Nat → Int → Int) (o6 : Option jzV), i + m = w (421 + 4 * n + 3) → w (421 + 4 * n + 2) ≤ i → tRun (aStp w) i m T T9 → mLine w n p pain wet = eRun (mFact w p pain wet) (aStp w) (aArg w) i m V → vOK T V → T.length ≤ 60 → V.sum ≤ 100000 * (i - w (421 + 4 * n + 2)) → aSt (I' 165) V → Fr1 165 I I' → jW G mX5_holds (d + 2) (rEI (if mHolds w n p pain wet then 1 else 0) sh F (Fr1 165 I)) 16 [some (jR (some l)), some (jI n), some (jR (some 160)), some (jR (some 165)), some (jI V.length), some (jI i), o6] [] (sh, I', F) 0 0 := by
    intro m
    induction m with
    | zero =>
      intro i T V I' o6 hi hi0 hT he hk hTl hB hst hfr
      have q25 : I' ls (n + 1) = w (421 + 4 * n + 3) := by rw [hfr ls (by omega)]; exact b2
      have hlen := vOK_len hk
      have eT : T = T9 := hT
      subst eT
      have he2 : mLine w n p pain wet = V := he
      rcases l7 with rfl | rfl
      · cases V with
        | cons a b => exact hk.elim
        | nil =>
          refine j_iload dX5_holds_16 rfl ?_
          refine j_aload_n dX5_holds_18 rfl ?_
          refine r_getS dX5_holds_19 flX5_27 (by first | assumption | exact hsh _ _ rfl) (by assumption) ?_
          refine j_iload_n dX5_holds_22 rfl ?_
          refine j_iconst dX5_holds_23 ?_
          refine j_iadd dX5_holds_24 ?_
          refine r_ialoadE dX5_holds_25 (by first | assumption | exact hsh _ _ rfl) (by first | omega | (split <;> omega)) (by first | omega | (split <;> omega)) q25 (fun b_25 => ?_)
          refine j_icmp_ge (tgt := 142) dX5_holds_26 rfl (by first | omega | (split <;> omega)) (by first | omega | (split <;> omega)) (fun c_26 => ?_) (fun c_26 => by exact absurd (by omega) c_26)
          refine j_iload dX5_holds_142 rfl ?_
          refine j_if_eq (tgt := 154) dX5_holds_144 rfl (by decide) (fun c_144 => ?_) (fun c_144 => by exact absurd rfl c_144)
          refine j_iconst dX5_holds_154 ?_
          refine j_goto (tgt := 159) dX5_holds_155 rfl ?_
          refine j_zret dX5_holds_159 rfl (by omega) ?_
          exact rEI_of (by rw [if_pos (Or.inl he2)]) hfr
      · obtain ⟨v, R, rfl, a0, a1, hk1⟩ := vOK_c hk
        cases R with
        | cons a b => exact hk1.elim
        | nil =>
          have hst0 : I' 165 0 = v := hst.1
          have a2 := a1 rfl
          rw [show (([v].length : Nat) : Int) = 1 from rfl]
          refine j_iload dX5_holds_16 rfl ?_
          refine j_aload_n dX5_holds_18 rfl ?_
          refine r_getS dX5_holds_19 flX5_27 (by first | assumption | exact hsh _ _ rfl) (by assumption) ?_
          refine j_iload_n dX5_holds_22 rfl ?_
          refine j_iconst dX5_holds_23 ?_
          refine j_iadd dX5_holds_24 ?_
          refine r_ialoadE dX5_holds_25 (by first | assumption | exact hsh _ _ rfl) (by first | omega | (split <;> omega)) (by first | omega | (split <;> omega)) q25 (fun b_25 => ?_)
          refine j_icmp_ge (tgt := 142) dX5_holds_26 rfl (by first | omega | (split <;> omega)) (by first | omega | (split <;> omega)) (fun c_26 => ?_) (fun c_26 => by exact absurd (by omega) c_26)
          refine j_iload dX5_holds_142 rfl ?_
          refine j_if_eq (tgt := 154) dX5_holds_144 rfl (by decide) (fun c_144 => by exact absurd c_144 (by decide)) (fun c_144 => ?_)
          refine j_aload_n dX5_holds_147 rfl ?_
          refine j_iconst dX5_holds_148 ?_
          refine r_ialoadE dX5_holds_149 (by first | assumption | exact hsh _ _ rfl) (by first | omega | (split <;> omega)) (by first | omega | (split <;> omega)) hst0 (fun b_149 => ?_)
          refine j_iconst dX5_holds_150 ?_
          refine j_icmp_ne (tgt := 158) dX5_holds_151 rfl (by first | omega | (split <;> omega)) (by first | omega | (split <;> omega)) (fun c_151 => ?_) (fun c_151 => ?_)
          · refine j_iconst dX5_holds_158 ?_
            refine j_zret dX5_holds_159 rfl (by omega) ?_
            exact rEI_of (by first | rw [if_pos (Or.inr (by rw [he2, show v = 1 by omega]))] | rw [if_neg (fun z => z.elim (fun z => by rw [he2] at z; cases z) (fun z => by rw [he2] at z; cases z; omega))]) hfr
          · refine j_iconst dX5_holds_154 ?_
            refine j_goto (tgt := 159) dX5_holds_155 rfl ?_
            refine j_zret dX5_holds_159 rfl (by omega) ?_
            exact rEI_of (by first | rw [if_pos (Or.inr (by rw [he2, show v = 1 by omega]))] | rw [if_neg (fun z => z.elim (fun z => by rw [he2] at z; cases z) (fun z => by rw [he2] at z; cases z; omega))]) hfr
    | succ m ih =>
      intro i T V I' o6 hi hi0 hT he hk0 hTl hB hst hfr
      have q25 : I' ls (n + 1) = w (421 + 4 * n + 3) := by rw [hfr ls (by omega)]; exact b2
      have hC' := CtxC_fr hC hfr
      obtain ⟨T1, hT1, hT2⟩ := hT
      have harg := l8 i hi0 (by omega)
      have hT1l := tStep_len hT1 hTl
      have hk := eStep_ok hT1 hk0 hB hfa harg
      have hlen := vOK_len hk0
      have hsum := vOK_sum hk0
      have he' : mLine w n p pain wet = eRun (mFact w p pain wet) (aStp w) (aArg w) (i + 1) m (eStep (mFact w p pain wet) (aStp w i) (aArg w i) V) := he
      clear he
      have q35 : I' lc i = jCode (aStp w i) (aArg w i) := by rw [hfr lc (by omega)]; exact b4 i (by omega) hi0 (by omega)
      generalize hst9 : aStp w i = st at hT1 hk harg he' q35
      have hbig : 100000 * (i - w (421 + 4 * n + 2)) ≤ 40000000 := by omega
      rcases hT1 with ⟨h1, h2, rfl⟩ | ⟨rfl, R, rfl, rfl⟩ | ⟨rfl, R, rfl, rfl⟩ | ⟨h1, R, rfl, rfl⟩ | ⟨h1, R, rfl, rfl⟩
      · rw [eStep_push h1.2] at hk he'
        have hx := hk.1.1
        have hsum2 := hk.2
        rw [List.sum_cons] at hsum2
        have hcode : jCode st (aArg w i) < 1007 ∧ 0 ≤ jCode st (aArg w i) := by
          unfold jCode
          by_cases q : st = 7
          · rw [if_pos q]; have := harg q; omega
          · rw [if_neg q, if_pos (by omega)]; omega
        have hspec := sc_valueOf (G := G) (d := d + 1) (I := I') hsh hfx (st := st) (arg := aArg w i) hC' hv h1 harg
        have ih3 : jW G mX5_holds (d + 2) (rEI (if mHolds w n p pain wet then 1 else 0) sh F (Fr1 165 I)) 16 [some (jR (some l)), some (jI n), some (jR (some 160)), some (jR (some 165)), some (jI ((V.length : Int) + 1)), some (jI (i + 1)), some (jI (jCode st (aArg w i)))] [] (sh, jup I' 165 V.length (if st = 7 then aArg w i else mFact w p pain wet st), F) 0 0 := ih (i + 1) _ _ (jup I' 165 V.length (if st = 7 then aArg w i else mFact w p pain wet st)) (some (jI (jCode st (aArg w i)))) (by omega) (by omega) hT2 he' hk.1 hT1l (by omega) (by rw [jup_at]; exact aSt_push rfl hst) (Fr1_up hfr)
        generalize hQ : rEI (if mHolds w n p pain wet then 1 else 0) sh F (Fr1 165 I) = Q9 at ih3 ⊢
        have hl3 : 0 ≤ (V.length : Int) ∧ (V.length : Int) < 60 := by omega
        generalize (V.length : Int) = top at *
        generalize jCode st (aArg w i) = cd at *
        refine j_iload dX5_holds_16 rfl ?_
        refine j_aload_n dX5_holds_18 rfl ?_
        refine r_getS dX5_holds_19 flX5_27 (by first | assumption | exact hsh _ _ rfl) (by assumption) ?_
        refine j_iload_n dX5_holds_22 rfl ?_
        refine j_iconst dX5_holds_23 ?_
        refine j_iadd dX5_holds_24 ?_
        refine r_ialoadE dX5_holds_25 (by first | assumption | exact hsh _ _ rfl) (by first | omega | (split <;> omega)) (by first | omega | (split <;> omega)) q25 (fun b_25 => ?_)
        refine j_icmp_ge (tgt := 142) dX5_holds_26 rfl (by first | omega | (split <;> omega)) (by first | omega | (split <;> omega)) (fun c_26 => by exact absurd c_26 (by omega)) (fun c_26 => ?_)
        refine j_aload_n dX5_holds_29 rfl ?_
        refine r_getS dX5_holds_30 flX5_30 (by first | assumption | exact hsh _ _ rfl) (by assumption) ?_
        refine j_iload dX5_holds_33 rfl ?_
        refine r_ialoadE dX5_holds_35 (by first | assumption | exact hsh _ _ rfl) (by first | omega | (split <;> omega)) (by first | omega | (split <;> omega)) q35 (fun b_35 => ?_)
        refine j_istore dX5_holds_36 (by decide) ?_
        refine j_iload dX5_holds_38 rfl ?_
        refine j_sipush dX5_holds_40 (by decide) ?_
        refine j_icmp_ge (tgt := 71) dX5_holds_43 rfl (by first | omega | (split <;> omega)) (by first | omega | (split <;> omega)) (fun c_43 => by exact absurd c_43 (by omega)) (fun c_43 => ?_)
        refine j_iload dX5_holds_46 rfl ?_
        refine j_aload_n dX5_holds_48 rfl ?_
        refine r_alen dX5_holds_49 (by first | assumption | exact hsh _ _ rfl) ?_
        refine j_icmp_lt (tgt := 55) dX5_holds_50 rfl (by first | omega | (split <;> omega)) (by first | omega | (split <;> omega)) (fun c_50 => ?_) (fun c_50 => by exact absurd (by omega) c_50)
        refine j_aload_n dX5_holds_55 rfl ?_
        refine j_iload dX5_holds_56 rfl ?_
        refine j_aload_n dX5_holds_58 rfl ?_
        refine j_iload dX5_holds_59 rfl ?_
        refine r_cv1I dX5_holds_61 cvX5_42 (by decide) (by first | assumption | exact hsh _ _ rfl) (Nat.le_of_ble_eq_true rfl) (Nat.le_of_eq (Nat.zero_add _)) (Nat.le_of_eq (Nat.zero_add _)) (hspec) ?_
        refine r_iastore dX5_holds_64 (by first | assumption | exact hsh _ _ rfl) (by first | omega | (split <;> omega)) (by first | omega | (split <;> omega)) (by first | omega | (split <;> omega)) ?_
        refine j_iinc dX5_holds_65 rfl (by decide) ?_
        refine j_goto (tgt := 136) dX5_holds_68 rfl ?_
        refine j_iinc dX5_holds_136 rfl (by decide) ?_
        refine j_goto (tgt := 16) dX5_holds_139 rfl ?_
        exact ih3
      · obtain ⟨b, V1, rfl, b0, b1, hk1⟩ := vOK_c hk0
        have hE : eStep (mFact w p pain wet) 11 (aArg w i) (b :: V1) = (1 - b) :: V1 := by
          cases V1 <;> rfl
        rw [hE] at hk he'
        have b2 := b1 rfl
        have hsum2 := hk.2
        rw [List.sum_cons] at hsum2
        rw [show jCode 11 (aArg w i) = 1012 from rfl] at q35
        have q1 : I' 165 ((((b :: V1).length : Nat) : Int) - 1) = b := by rw [List.length_cons, show ((V1.length + 1 : Nat) : Int) - 1 = (V1.length : Int) by omega]; exact hst.1
        have ih2 := ih (i + 1) _ _ (jup I' 165 ((((b :: V1).length : Nat) : Int) - 1) (1 - b)) (some (jI 1012)) (by omega) (by omega) hT2 he' hk.1 hT1l (by omega) (by rw [jup_at]; exact aSt_push (by rw [List.length_cons]; omega) hst.2) (Fr1_up hfr)
        have hl2 : (((b :: V1).length : Nat) : Int) ≤ 60 ∧ 1 ≤ (((b :: V1).length : Nat) : Int) := ⟨by omega, by rw [List.length_cons]; omega⟩
        rw [show ((1 - b) :: V1).length = (b :: V1).length from rfl] at ih2
        generalize hQ : rEI (if mHolds w n p pain wet then 1 else 0) sh F (Fr1 165 I) = Q9 at ih2 ⊢
        generalize (((b :: V1).length : Nat) : Int) = top at *
        refine j_iload dX5_holds_16 rfl ?_
        refine j_aload_n dX5_holds_18 rfl ?_
        refine r_getS dX5_holds_19 flX5_27 (by first | assumption | exact hsh _ _ rfl) (by assumption) ?_
        refine j_iload_n dX5_holds_22 rfl ?_
        refine j_iconst dX5_holds_23 ?_
        refine j_iadd dX5_holds_24 ?_
        refine r_ialoadE dX5_holds_25 (by first | assumption | exact hsh _ _ rfl) (by first | omega | (split <;> omega)) (by first | omega | (split <;> omega)) q25 (fun b_25 => ?_)
        refine j_icmp_ge (tgt := 142) dX5_holds_26 rfl (by first | omega | (split <;> omega)) (by first | omega | (split <;> omega)) (fun c_26 => by exact absurd c_26 (by omega)) (fun c_26 => ?_)
        refine j_aload_n dX5_holds_29 rfl ?_
        refine r_getS dX5_holds_30 flX5_30 (by first | assumption | exact hsh _ _ rfl) (by assumption) ?_
        refine j_iload dX5_holds_33 rfl ?_
        refine r_ialoadE dX5_holds_35 (by first | assumption | exact hsh _ _ rfl) (by first | omega | (split <;> omega)) (by first | omega | (split <;> omega)) q35 (fun b_35 => ?_)
        refine j_istore dX5_holds_36 (by decide) ?_
        refine j_iload dX5_holds_38 rfl ?_
        refine j_sipush dX5_holds_40 (by decide) ?_
        refine j_icmp_ge (tgt := 71) dX5_holds_43 rfl (by first | omega | (split <;> omega)) (by first | omega | (split <;> omega)) (fun c_43 => ?_) (fun c_43 => by exact absurd (by omega) c_43)
        refine j_iload dX5_holds_71 rfl ?_
        refine j_sipush dX5_holds_73 (by decide) ?_
        refine j_icmp_ne (tgt := 104) dX5_holds_76 rfl (by first | omega | (split <;> omega)) (by first | omega | (split <;> omega)) (fun c_76 => by exact absurd rfl c_76) (fun c_76 => ?_)
        refine j_iload dX5_holds_79 rfl ?_
        refine j_iconst dX5_holds_81 ?_
        refine j_icmp_ge (tgt := 87) dX5_holds_82 rfl (by first | omega | (split <;> omega)) (by first | omega | (split <;> omega)) (fun c_82 => ?_) (fun c_82 => by exact absurd (by omega) c_82)
        refine j_aload_n dX5_holds_87 rfl ?_
        refine j_iload dX5_holds_88 rfl ?_
        refine j_iconst dX5_holds_90 ?_
        refine j_isub dX5_holds_91 ?_
        refine j_iconst dX5_holds_92 ?_
        refine j_aload_n dX5_holds_93 rfl ?_
        refine j_iload dX5_holds_94 rfl ?_
        refine j_iconst dX5_holds_96 ?_
        refine j_isub dX5_holds_97 ?_
        refine r_ialoadE dX5_holds_98 (by first | assumption | exact hsh _ _ rfl) (by first | omega | (split <;> omega)) (by first | omega | (split <;> omega)) q1 (fun b_98 => ?_)
        refine j_isub dX5_holds_99 ?_
        refine r_iastore dX5_holds_100 (by first | assumption | exact hsh _ _ rfl) (by first | omega | (split <;> omega)) (by first | omega | (split <;> omega)) (by first | omega | (split <;> omega)) ?_
        refine j_goto (tgt := 136) dX5_holds_101 rfl ?_
        refine j_iinc dX5_holds_136 rfl (by decide) ?_
        refine j_goto (tgt := 16) dX5_holds_139 rfl ?_
        exact ih2
      · obtain ⟨b, V1, rfl, b0, b1, hk1⟩ := vOK_c hk0
        obtain ⟨a, V2, rfl, a0, a1, hk2⟩ := vOK_c hk1
        have hE : eStep (mFact w p pain wet) 8 (aArg w i) (b :: a :: V2) = (a + b) :: V2 := rfl
        rw [hE] at hk he'
        have hsum2 := hk.2
        have hv2 := vOK_sum hk2
        have hx := hk.1.1
        rw [List.sum_cons] at hsum2
        rw [List.sum_cons, List.sum_cons] at hB
        have hspec : jS G (d + 1) mX5_joined [jI 1007, jI a, jI b] (sh, I', F) 0 0 (rI (a + b) (sh, I', F)) := sc_joined (st := 8) (arg := aArg w i) (by omega) (by omega) (by omega)
        rw [show jCode 8 (aArg w i) = 1007 from rfl] at q35
        have q1 : I' 165 ((((b :: a :: V2).length : Nat) : Int) - 1 - 1) = a := by rw [List.length_cons, List.length_cons, show ((V2.length + 1 + 1 : Nat) : Int) - 1 - 1 = (V2.length : Int) by omega]; exact hst.2.1
        have q2 : I' 165 ((((b :: a :: V2).length : Nat) : Int) - 1) = b := by rw [List.length_cons, show (((a :: V2).length + 1 : Nat) : Int) - 1 = ((a :: V2).length : Int) by omega]; exact hst.1
        have ih2 := ih (i + 1) _ _ (jup I' 165 ((((b :: a :: V2).length : Nat) : Int) - 1 - 1) (a + b)) (some (jI 1007)) (by omega) (by omega) hT2 he' hk.1 hT1l (by omega) (by rw [jup_at]; exact aSt_push (by rw [List.length_cons, List.length_cons]; omega) hst.2.2) (Fr1_up hfr)
        have hl2 : (((b :: a :: V2).length : Nat) : Int) ≤ 60 ∧ 2 ≤ (((b :: a :: V2).length : Nat) : Int) := ⟨by omega, by rw [List.length_cons, List.length_cons]; omega⟩
        rw [show ((((a + b) :: V2).length : Nat) : Int) = (((b :: a :: V2).length : Nat) : Int) - 1 by rw [List.length_cons, List.length_cons, List.length_cons]; omega] at ih2
        generalize hQ : rEI (if mHolds w n p pain wet then 1 else 0) sh F (Fr1 165 I) = Q9 at ih2 ⊢
        generalize (((b :: a :: V2).length : Nat) : Int) = top at *
        clear hk he' hE hk0 hk1
        have hval : jin (a + b) := by first | omega | (split <;> omega)
        generalize (a + b) = val at *
        refine j_iload dX5_holds_16 rfl ?_
        refine j_aload_n dX5_holds_18 rfl ?_
        refine r_getS dX5_holds_19 flX5_27 (by first | assumption | exact hsh _ _ rfl) (by assumption) ?_
        refine j_iload_n dX5_holds_22 rfl ?_
        refine j_iconst dX5_holds_23 ?_
        refine j_iadd dX5_holds_24 ?_
        refine r_ialoadE dX5_holds_25 (by first | assumption | exact hsh _ _ rfl) (by first | omega | (split <;> omega)) (by first | omega | (split <;> omega)) q25 (fun b_25 => ?_)
        refine j_icmp_ge (tgt := 142) dX5_holds_26 rfl (by first | omega | (split <;> omega)) (by first | omega | (split <;> omega)) (fun c_26 => by exact absurd c_26 (by omega)) (fun c_26 => ?_)
        refine j_aload_n dX5_holds_29 rfl ?_
        refine r_getS dX5_holds_30 flX5_30 (by first | assumption | exact hsh _ _ rfl) (by assumption) ?_
        refine j_iload dX5_holds_33 rfl ?_
        refine r_ialoadE dX5_holds_35 (by first | assumption | exact hsh _ _ rfl) (by first | omega | (split <;> omega)) (by first | omega | (split <;> omega)) q35 (fun b_35 => ?_)
        refine j_istore dX5_holds_36 (by decide) ?_
        refine j_iload dX5_holds_38 rfl ?_
        refine j_sipush dX5_holds_40 (by decide) ?_
        refine j_icmp_ge (tgt := 71) dX5_holds_43 rfl (by first | omega | (split <;> omega)) (by first | omega | (split <;> omega)) (fun c_43 => ?_) (fun c_43 => by exact absurd (by omega) c_43)
        refine j_iload dX5_holds_71 rfl ?_
        refine j_sipush dX5_holds_73 (by decide) ?_
        refine j_icmp_ne (tgt := 104) dX5_holds_76 rfl (by first | omega | (split <;> omega)) (by first | omega | (split <;> omega)) (fun c_76 => ?_) (fun c_76 => by exact absurd c_76 (by decide))
        refine j_iload dX5_holds_104 rfl ?_
        refine j_iconst dX5_holds_106 ?_
        refine j_icmp_ge (tgt := 112) dX5_holds_107 rfl (by first | omega | (split <;> omega)) (by first | omega | (split <;> omega)) (fun c_107 => ?_) (fun c_107 => by exact absurd (by omega) c_107)
        refine j_iinc dX5_holds_112 rfl (by decide) ?_
        refine j_aload_n dX5_holds_115 rfl ?_
        refine j_iload dX5_holds_116 rfl ?_
        refine j_iconst dX5_holds_118 ?_
        refine j_isub dX5_holds_119 ?_
        refine j_iload dX5_holds_120 rfl ?_
        refine j_aload_n dX5_holds_122 rfl ?_
        refine j_iload dX5_holds_123 rfl ?_
        refine j_iconst dX5_holds_125 ?_
        refine j_isub dX5_holds_126 ?_
        refine r_ialoadE dX5_holds_127 (by first | assumption | exact hsh _ _ rfl) (by first | omega | (split <;> omega)) (by first | omega | (split <;> omega)) q1 (fun b_127 => ?_)
        refine j_aload_n dX5_holds_128 rfl ?_
        refine j_iload dX5_holds_129 rfl ?_
        refine r_ialoadE dX5_holds_131 (by first | assumption | exact hsh _ _ rfl) (by first | omega | (split <;> omega)) (by first | omega | (split <;> omega)) q2 (fun b_131 => ?_)
        refine r_cs3I dX5_holds_132 csX5_46 (Nat.le_of_ble_eq_true rfl) (Nat.le_of_eq (Nat.zero_add _)) (Nat.le_of_eq (Nat.zero_add _)) (hspec) ?_
        refine r_iastore dX5_holds_135 (by first | assumption | exact hsh _ _ rfl) (by first | omega | (split <;> omega)) (by first | omega | (split <;> omega)) (by first | omega | (split <;> omega)) ?_
        refine j_iinc dX5_holds_136 rfl (by decide) ?_
        refine j_goto (tgt := 16) dX5_holds_139 rfl ?_
        exact ih2
      · rcases h1 with rfl | rfl
        · obtain ⟨b, V1, rfl, b0, b1, hk1⟩ := vOK_c hk0
          obtain ⟨a, V2, rfl, a0, a1, hk2⟩ := vOK_c hk1
          have hE : eStep (mFact w p pain wet) 9 (aArg w i) (b :: a :: V2) = (if a < b then 1 else 0) :: V2 := rfl
          rw [hE] at hk he'
          have hsum2 := hk.2
          have hv2 := vOK_sum hk2
          have hx := hk.1.1
          rw [List.sum_cons] at hsum2
          rw [List.sum_cons, List.sum_cons] at hB
          have hspec : jS G (d + 1) mX5_joined [jI 1008, jI a, jI b] (sh, I', F) 0 0 (rI (if a < b then 1 else 0) (sh, I', F)) := sc_joined (st := 9) (arg := aArg w i) (by omega) (by omega) (by omega)
          rw [show jCode 9 (aArg w i) = 1008 from rfl] at q35
          have q1 : I' 165 ((((b :: a :: V2).length : Nat) : Int) - 1 - 1) = a := by rw [List.length_cons, List.length_cons, show ((V2.length + 1 + 1 : Nat) : Int) - 1 - 1 = (V2.length : Int) by omega]; exact hst.2.1
          have q2 : I' 165 ((((b :: a :: V2).length : Nat) : Int) - 1) = b := by rw [List.length_cons, show (((a :: V2).length + 1 : Nat) : Int) - 1 = ((a :: V2).length : Int) by omega]; exact hst.1
          have ih2 := ih (i + 1) _ _ (jup I' 165 ((((b :: a :: V2).length : Nat) : Int) - 1 - 1) (if a < b then 1 else 0)) (some (jI 1008)) (by omega) (by omega) hT2 he' hk.1 hT1l (by omega) (by rw [jup_at]; exact aSt_push (by rw [List.length_cons, List.length_cons]; omega) hst.2.2) (Fr1_up hfr)
          have hl2 : (((b :: a :: V2).length : Nat) : Int) ≤ 60 ∧ 2 ≤ (((b :: a :: V2).length : Nat) : Int) := ⟨by omega, by rw [List.length_cons, List.length_cons]; omega⟩
          rw [show ((((if a < b then 1 else 0) :: V2).length : Nat) : Int) = (((b :: a :: V2).length : Nat) : Int) - 1 by rw [List.length_cons, List.length_cons, List.length_cons]; omega] at ih2
          generalize hQ : rEI (if mHolds w n p pain wet then 1 else 0) sh F (Fr1 165 I) = Q9 at ih2 ⊢
          generalize (((b :: a :: V2).length : Nat) : Int) = top at *
          clear hk he' hE hk0 hk1
          have hval : jin (if a < b then 1 else 0) := by first | omega | (split <;> omega)
          generalize (if a < b then 1 else 0) = val at *
          refine j_iload dX5_holds_16 rfl ?_
          refine j_aload_n dX5_holds_18 rfl ?_
          refine r_getS dX5_holds_19 flX5_27 (by first | assumption | exact hsh _ _ rfl) (by assumption) ?_
          refine j_iload_n dX5_holds_22 rfl ?_
          refine j_iconst dX5_holds_23 ?_
          refine j_iadd dX5_holds_24 ?_
          refine r_ialoadE dX5_holds_25 (by first | assumption | exact hsh _ _ rfl) (by first | omega | (split <;> omega)) (by first | omega | (split <;> omega)) q25 (fun b_25 => ?_)
          refine j_icmp_ge (tgt := 142) dX5_holds_26 rfl (by first | omega | (split <;> omega)) (by first | omega | (split <;> omega)) (fun c_26 => by exact absurd c_26 (by omega)) (fun c_26 => ?_)
          refine j_aload_n dX5_holds_29 rfl ?_
          refine r_getS dX5_holds_30 flX5_30 (by first | assumption | exact hsh _ _ rfl) (by assumption) ?_
          refine j_iload dX5_holds_33 rfl ?_
          refine r_ialoadE dX5_holds_35 (by first | assumption | exact hsh _ _ rfl) (by first | omega | (split <;> omega)) (by first | omega | (split <;> omega)) q35 (fun b_35 => ?_)
          refine j_istore dX5_holds_36 (by decide) ?_
          refine j_iload dX5_holds_38 rfl ?_
          refine j_sipush dX5_holds_40 (by decide) ?_
          refine j_icmp_ge (tgt := 71) dX5_holds_43 rfl (by first | omega | (split <;> omega)) (by first | omega | (split <;> omega)) (fun c_43 => ?_) (fun c_43 => by exact absurd (by omega) c_43)
          refine j_iload dX5_holds_71 rfl ?_
          refine j_sipush dX5_holds_73 (by decide) ?_
          refine j_icmp_ne (tgt := 104) dX5_holds_76 rfl (by first | omega | (split <;> omega)) (by first | omega | (split <;> omega)) (fun c_76 => ?_) (fun c_76 => by exact absurd c_76 (by decide))
          refine j_iload dX5_holds_104 rfl ?_
          refine j_iconst dX5_holds_106 ?_
          refine j_icmp_ge (tgt := 112) dX5_holds_107 rfl (by first | omega | (split <;> omega)) (by first | omega | (split <;> omega)) (fun c_107 => ?_) (fun c_107 => by exact absurd (by omega) c_107)
          refine j_iinc dX5_holds_112 rfl (by decide) ?_
          refine j_aload_n dX5_holds_115 rfl ?_
          refine j_iload dX5_holds_116 rfl ?_
          refine j_iconst dX5_holds_118 ?_
          refine j_isub dX5_holds_119 ?_
          refine j_iload dX5_holds_120 rfl ?_
          refine j_aload_n dX5_holds_122 rfl ?_
          refine j_iload dX5_holds_123 rfl ?_
          refine j_iconst dX5_holds_125 ?_
          refine j_isub dX5_holds_126 ?_
          refine r_ialoadE dX5_holds_127 (by first | assumption | exact hsh _ _ rfl) (by first | omega | (split <;> omega)) (by first | omega | (split <;> omega)) q1 (fun b_127 => ?_)
          refine j_aload_n dX5_holds_128 rfl ?_
          refine j_iload dX5_holds_129 rfl ?_
          refine r_ialoadE dX5_holds_131 (by first | assumption | exact hsh _ _ rfl) (by first | omega | (split <;> omega)) (by first | omega | (split <;> omega)) q2 (fun b_131 => ?_)
          refine r_cs3I dX5_holds_132 csX5_46 (Nat.le_of_ble_eq_true rfl) (Nat.le_of_eq (Nat.zero_add _)) (Nat.le_of_eq (Nat.zero_add _)) (hspec) ?_
          refine r_iastore dX5_holds_135 (by first | assumption | exact hsh _ _ rfl) (by first | omega | (split <;> omega)) (by first | omega | (split <;> omega)) (by first | omega | (split <;> omega)) ?_
          refine j_iinc dX5_holds_136 rfl (by decide) ?_
          refine j_goto (tgt := 16) dX5_holds_139 rfl ?_
          exact ih2
        · obtain ⟨b, V1, rfl, b0, b1, hk1⟩ := vOK_c hk0
          obtain ⟨a, V2, rfl, a0, a1, hk2⟩ := vOK_c hk1
          have hE : eStep (mFact w p pain wet) 10 (aArg w i) (b :: a :: V2) = (if b < a then 1 else 0) :: V2 := rfl
          rw [hE] at hk he'
          have hsum2 := hk.2
          have hv2 := vOK_sum hk2
          have hx := hk.1.1
          rw [List.sum_cons] at hsum2
          rw [List.sum_cons, List.sum_cons] at hB
          have hspec : jS G (d + 1) mX5_joined [jI 1009, jI a, jI b] (sh, I', F) 0 0 (rI (if b < a then 1 else 0) (sh, I', F)) := sc_joined (st := 10) (arg := aArg w i) (by omega) (by omega) (by omega)
          rw [show jCode 10 (aArg w i) = 1009 from rfl] at q35
          have q1 : I' 165 ((((b :: a :: V2).length : Nat) : Int) - 1 - 1) = a := by rw [List.length_cons, List.length_cons, show ((V2.length + 1 + 1 : Nat) : Int) - 1 - 1 = (V2.length : Int) by omega]; exact hst.2.1
          have q2 : I' 165 ((((b :: a :: V2).length : Nat) : Int) - 1) = b := by rw [List.length_cons, show (((a :: V2).length + 1 : Nat) : Int) - 1 = ((a :: V2).length : Int) by omega]; exact hst.1
          have ih2 := ih (i + 1) _ _ (jup I' 165 ((((b :: a :: V2).length : Nat) : Int) - 1 - 1) (if b < a then 1 else 0)) (some (jI 1009)) (by omega) (by omega) hT2 he' hk.1 hT1l (by omega) (by rw [jup_at]; exact aSt_push (by rw [List.length_cons, List.length_cons]; omega) hst.2.2) (Fr1_up hfr)
          have hl2 : (((b :: a :: V2).length : Nat) : Int) ≤ 60 ∧ 2 ≤ (((b :: a :: V2).length : Nat) : Int) := ⟨by omega, by rw [List.length_cons, List.length_cons]; omega⟩
          rw [show ((((if b < a then 1 else 0) :: V2).length : Nat) : Int) = (((b :: a :: V2).length : Nat) : Int) - 1 by rw [List.length_cons, List.length_cons, List.length_cons]; omega] at ih2
          generalize hQ : rEI (if mHolds w n p pain wet then 1 else 0) sh F (Fr1 165 I) = Q9 at ih2 ⊢
          generalize (((b :: a :: V2).length : Nat) : Int) = top at *
          clear hk he' hE hk0 hk1
          have hval : jin (if b < a then 1 else 0) := by first | omega | (split <;> omega)
          generalize (if b < a then 1 else 0) = val at *
          refine j_iload dX5_holds_16 rfl ?_
          refine j_aload_n dX5_holds_18 rfl ?_
          refine r_getS dX5_holds_19 flX5_27 (by first | assumption | exact hsh _ _ rfl) (by assumption) ?_
          refine j_iload_n dX5_holds_22 rfl ?_
          refine j_iconst dX5_holds_23 ?_
          refine j_iadd dX5_holds_24 ?_
          refine r_ialoadE dX5_holds_25 (by first | assumption | exact hsh _ _ rfl) (by first | omega | (split <;> omega)) (by first | omega | (split <;> omega)) q25 (fun b_25 => ?_)
          refine j_icmp_ge (tgt := 142) dX5_holds_26 rfl (by first | omega | (split <;> omega)) (by first | omega | (split <;> omega)) (fun c_26 => by exact absurd c_26 (by omega)) (fun c_26 => ?_)
          refine j_aload_n dX5_holds_29 rfl ?_
          refine r_getS dX5_holds_30 flX5_30 (by first | assumption | exact hsh _ _ rfl) (by assumption) ?_
          refine j_iload dX5_holds_33 rfl ?_
          refine r_ialoadE dX5_holds_35 (by first | assumption | exact hsh _ _ rfl) (by first | omega | (split <;> omega)) (by first | omega | (split <;> omega)) q35 (fun b_35 => ?_)
          refine j_istore dX5_holds_36 (by decide) ?_
          refine j_iload dX5_holds_38 rfl ?_
          refine j_sipush dX5_holds_40 (by decide) ?_
          refine j_icmp_ge (tgt := 71) dX5_holds_43 rfl (by first | omega | (split <;> omega)) (by first | omega | (split <;> omega)) (fun c_43 => ?_) (fun c_43 => by exact absurd (by omega) c_43)
          refine j_iload dX5_holds_71 rfl ?_
          refine j_sipush dX5_holds_73 (by decide) ?_
          refine j_icmp_ne (tgt := 104) dX5_holds_76 rfl (by first | omega | (split <;> omega)) (by first | omega | (split <;> omega)) (fun c_76 => ?_) (fun c_76 => by exact absurd c_76 (by decide))
          refine j_iload dX5_holds_104 rfl ?_
          refine j_iconst dX5_holds_106 ?_
          refine j_icmp_ge (tgt := 112) dX5_holds_107 rfl (by first | omega | (split <;> omega)) (by first | omega | (split <;> omega)) (fun c_107 => ?_) (fun c_107 => by exact absurd (by omega) c_107)
          refine j_iinc dX5_holds_112 rfl (by decide) ?_
          refine j_aload_n dX5_holds_115 rfl ?_
          refine j_iload dX5_holds_116 rfl ?_
          refine j_iconst dX5_holds_118 ?_
          refine j_isub dX5_holds_119 ?_
          refine j_iload dX5_holds_120 rfl ?_
          refine j_aload_n dX5_holds_122 rfl ?_
          refine j_iload dX5_holds_123 rfl ?_
          refine j_iconst dX5_holds_125 ?_
          refine j_isub dX5_holds_126 ?_
          refine r_ialoadE dX5_holds_127 (by first | assumption | exact hsh _ _ rfl) (by first | omega | (split <;> omega)) (by first | omega | (split <;> omega)) q1 (fun b_127 => ?_)
          refine j_aload_n dX5_holds_128 rfl ?_
          refine j_iload dX5_holds_129 rfl ?_
          refine r_ialoadE dX5_holds_131 (by first | assumption | exact hsh _ _ rfl) (by first | omega | (split <;> omega)) (by first | omega | (split <;> omega)) q2 (fun b_131 => ?_)
          refine r_cs3I dX5_holds_132 csX5_46 (Nat.le_of_ble_eq_true rfl) (Nat.le_of_eq (Nat.zero_add _)) (Nat.le_of_eq (Nat.zero_add _)) (hspec) ?_
          refine r_iastore dX5_holds_135 (by first | assumption | exact hsh _ _ rfl) (by first | omega | (split <;> omega)) (by first | omega | (split <;> omega)) (by first | omega | (split <;> omega)) ?_
          refine j_iinc dX5_holds_136 rfl (by decide) ?_
          refine j_goto (tgt := 16) dX5_holds_139 rfl ?_
          exact ih2
      · rcases h1 with rfl | rfl
        · obtain ⟨b, V1, rfl, b0, b1, hk1⟩ := vOK_c hk0
          obtain ⟨a, V2, rfl, a0, a1, hk2⟩ := vOK_c hk1
          have b2 := b1 rfl
          have a2 := a1 rfl
          have hE : eStep (mFact w p pain wet) 12 (aArg w i) (b :: a :: V2) = (if a + b = 2 then 1 else 0) :: V2 := rfl
          rw [hE] at hk he'
          have hsum2 := hk.2
          have hv2 := vOK_sum hk2
          have hx := hk.1.1
          rw [List.sum_cons] at hsum2
          rw [List.sum_cons, List.sum_cons] at hB
          have hspec : jS G (d + 1) mX5_joined [jI 1010, jI a, jI b] (sh, I', F) 0 0 (rI (if a + b = 2 then 1 else 0) (sh, I', F)) := sc_joined (st := 12) (arg := aArg w i) (by omega) (by omega) (by omega)
          rw [show jCode 12 (aArg w i) = 1010 from rfl] at q35
          have q1 : I' 165 ((((b :: a :: V2).length : Nat) : Int) - 1 - 1) = a := by rw [List.length_cons, List.length_cons, show ((V2.length + 1 + 1 : Nat) : Int) - 1 - 1 = (V2.length : Int) by omega]; exact hst.2.1
          have q2 : I' 165 ((((b :: a :: V2).length : Nat) : Int) - 1) = b := by rw [List.length_cons, show (((a :: V2).length + 1 : Nat) : Int) - 1 = ((a :: V2).length : Int) by omega]; exact hst.1
          have ih2 := ih (i + 1) _ _ (jup I' 165 ((((b :: a :: V2).length : Nat) : Int) - 1 - 1) (if a + b = 2 then 1 else 0)) (some (jI 1010)) (by omega) (by omega) hT2 he' hk.1 hT1l (by omega) (by rw [jup_at]; exact aSt_push (by rw [List.length_cons, List.length_cons]; omega) hst.2.2) (Fr1_up hfr)
          have hl2 : (((b :: a :: V2).length : Nat) : Int) ≤ 60 ∧ 2 ≤ (((b :: a :: V2).length : Nat) : Int) := ⟨by omega, by rw [List.length_cons, List.length_cons]; omega⟩
          rw [show ((((if a + b = 2 then 1 else 0) :: V2).length : Nat) : Int) = (((b :: a :: V2).length : Nat) : Int) - 1 by rw [List.length_cons, List.length_cons, List.length_cons]; omega] at ih2
          generalize hQ : rEI (if mHolds w n p pain wet then 1 else 0) sh F (Fr1 165 I) = Q9 at ih2 ⊢
          generalize (((b :: a :: V2).length : Nat) : Int) = top at *
          clear hk he' hE hk0 hk1
          have hval : jin (if a + b = 2 then 1 else 0) := by first | omega | (split <;> omega)
          generalize (if a + b = 2 then 1 else 0) = val at *
          refine j_iload dX5_holds_16 rfl ?_
          refine j_aload_n dX5_holds_18 rfl ?_
          refine r_getS dX5_holds_19 flX5_27 (by first | assumption | exact hsh _ _ rfl) (by assumption) ?_
          refine j_iload_n dX5_holds_22 rfl ?_
          refine j_iconst dX5_holds_23 ?_
          refine j_iadd dX5_holds_24 ?_
          refine r_ialoadE dX5_holds_25 (by first | assumption | exact hsh _ _ rfl) (by first | omega | (split <;> omega)) (by first | omega | (split <;> omega)) q25 (fun b_25 => ?_)
          refine j_icmp_ge (tgt := 142) dX5_holds_26 rfl (by first | omega | (split <;> omega)) (by first | omega | (split <;> omega)) (fun c_26 => by exact absurd c_26 (by omega)) (fun c_26 => ?_)
          refine j_aload_n dX5_holds_29 rfl ?_
          refine r_getS dX5_holds_30 flX5_30 (by first | assumption | exact hsh _ _ rfl) (by assumption) ?_
          refine j_iload dX5_holds_33 rfl ?_
          refine r_ialoadE dX5_holds_35 (by first | assumption | exact hsh _ _ rfl) (by first | omega | (split <;> omega)) (by first | omega | (split <;> omega)) q35 (fun b_35 => ?_)
          refine j_istore dX5_holds_36 (by decide) ?_
          refine j_iload dX5_holds_38 rfl ?_
          refine j_sipush dX5_holds_40 (by decide) ?_
          refine j_icmp_ge (tgt := 71) dX5_holds_43 rfl (by first | omega | (split <;> omega)) (by first | omega | (split <;> omega)) (fun c_43 => ?_) (fun c_43 => by exact absurd (by omega) c_43)
          refine j_iload dX5_holds_71 rfl ?_
          refine j_sipush dX5_holds_73 (by decide) ?_
          refine j_icmp_ne (tgt := 104) dX5_holds_76 rfl (by first | omega | (split <;> omega)) (by first | omega | (split <;> omega)) (fun c_76 => ?_) (fun c_76 => by exact absurd c_76 (by decide))
          refine j_iload dX5_holds_104 rfl ?_
          refine j_iconst dX5_holds_106 ?_
          refine j_icmp_ge (tgt := 112) dX5_holds_107 rfl (by first | omega | (split <;> omega)) (by first | omega | (split <;> omega)) (fun c_107 => ?_) (fun c_107 => by exact absurd (by omega) c_107)
          refine j_iinc dX5_holds_112 rfl (by decide) ?_
          refine j_aload_n dX5_holds_115 rfl ?_
          refine j_iload dX5_holds_116 rfl ?_
          refine j_iconst dX5_holds_118 ?_
          refine j_isub dX5_holds_119 ?_
          refine j_iload dX5_holds_120 rfl ?_
          refine j_aload_n dX5_holds_122 rfl ?_
          refine j_iload dX5_holds_123 rfl ?_
          refine j_iconst dX5_holds_125 ?_
          refine j_isub dX5_holds_126 ?_
          refine r_ialoadE dX5_holds_127 (by first | assumption | exact hsh _ _ rfl) (by first | omega | (split <;> omega)) (by first | omega | (split <;> omega)) q1 (fun b_127 => ?_)
          refine j_aload_n dX5_holds_128 rfl ?_
          refine j_iload dX5_holds_129 rfl ?_
          refine r_ialoadE dX5_holds_131 (by first | assumption | exact hsh _ _ rfl) (by first | omega | (split <;> omega)) (by first | omega | (split <;> omega)) q2 (fun b_131 => ?_)
          refine r_cs3I dX5_holds_132 csX5_46 (Nat.le_of_ble_eq_true rfl) (Nat.le_of_eq (Nat.zero_add _)) (Nat.le_of_eq (Nat.zero_add _)) (hspec) ?_
          refine r_iastore dX5_holds_135 (by first | assumption | exact hsh _ _ rfl) (by first | omega | (split <;> omega)) (by first | omega | (split <;> omega)) (by first | omega | (split <;> omega)) ?_
          refine j_iinc dX5_holds_136 rfl (by decide) ?_
          refine j_goto (tgt := 16) dX5_holds_139 rfl ?_
          exact ih2
        · obtain ⟨b, V1, rfl, b0, b1, hk1⟩ := vOK_c hk0
          obtain ⟨a, V2, rfl, a0, a1, hk2⟩ := vOK_c hk1
          have b2 := b1 rfl
          have a2 := a1 rfl
          have hE : eStep (mFact w p pain wet) 13 (aArg w i) (b :: a :: V2) = (if 0 < a + b then 1 else 0) :: V2 := rfl
          rw [hE] at hk he'
          have hsum2 := hk.2
          have hv2 := vOK_sum hk2
          have hx := hk.1.1
          rw [List.sum_cons] at hsum2
          rw [List.sum_cons, List.sum_cons] at hB
          have hspec : jS G (d + 1) mX5_joined [jI 1011, jI a, jI b] (sh, I', F) 0 0 (rI (if 0 < a + b then 1 else 0) (sh, I', F)) := sc_joined (st := 13) (arg := aArg w i) (by omega) (by omega) (by omega)
          rw [show jCode 13 (aArg w i) = 1011 from rfl] at q35
          have q1 : I' 165 ((((b :: a :: V2).length : Nat) : Int) - 1 - 1) = a := by rw [List.length_cons, List.length_cons, show ((V2.length + 1 + 1 : Nat) : Int) - 1 - 1 = (V2.length : Int) by omega]; exact hst.2.1
          have q2 : I' 165 ((((b :: a :: V2).length : Nat) : Int) - 1) = b := by rw [List.length_cons, show (((a :: V2).length + 1 : Nat) : Int) - 1 = ((a :: V2).length : Int) by omega]; exact hst.1
          have ih2 := ih (i + 1) _ _ (jup I' 165 ((((b :: a :: V2).length : Nat) : Int) - 1 - 1) (if 0 < a + b then 1 else 0)) (some (jI 1011)) (by omega) (by omega) hT2 he' hk.1 hT1l (by omega) (by rw [jup_at]; exact aSt_push (by rw [List.length_cons, List.length_cons]; omega) hst.2.2) (Fr1_up hfr)
          have hl2 : (((b :: a :: V2).length : Nat) : Int) ≤ 60 ∧ 2 ≤ (((b :: a :: V2).length : Nat) : Int) := ⟨by omega, by rw [List.length_cons, List.length_cons]; omega⟩
          rw [show ((((if 0 < a + b then 1 else 0) :: V2).length : Nat) : Int) = (((b :: a :: V2).length : Nat) : Int) - 1 by rw [List.length_cons, List.length_cons, List.length_cons]; omega] at ih2
          generalize hQ : rEI (if mHolds w n p pain wet then 1 else 0) sh F (Fr1 165 I) = Q9 at ih2 ⊢
          generalize (((b :: a :: V2).length : Nat) : Int) = top at *
          clear hk he' hE hk0 hk1
          have hval : jin (if 0 < a + b then 1 else 0) := by first | omega | (split <;> omega)
          generalize (if 0 < a + b then 1 else 0) = val at *
          refine j_iload dX5_holds_16 rfl ?_
          refine j_aload_n dX5_holds_18 rfl ?_
          refine r_getS dX5_holds_19 flX5_27 (by first | assumption | exact hsh _ _ rfl) (by assumption) ?_
          refine j_iload_n dX5_holds_22 rfl ?_
          refine j_iconst dX5_holds_23 ?_
          refine j_iadd dX5_holds_24 ?_
          refine r_ialoadE dX5_holds_25 (by first | assumption | exact hsh _ _ rfl) (by first | omega | (split <;> omega)) (by first | omega | (split <;> omega)) q25 (fun b_25 => ?_)
          refine j_icmp_ge (tgt := 142) dX5_holds_26 rfl (by first | omega | (split <;> omega)) (by first | omega | (split <;> omega)) (fun c_26 => by exact absurd c_26 (by omega)) (fun c_26 => ?_)
          refine j_aload_n dX5_holds_29 rfl ?_
          refine r_getS dX5_holds_30 flX5_30 (by first | assumption | exact hsh _ _ rfl) (by assumption) ?_
          refine j_iload dX5_holds_33 rfl ?_
          refine r_ialoadE dX5_holds_35 (by first | assumption | exact hsh _ _ rfl) (by first | omega | (split <;> omega)) (by first | omega | (split <;> omega)) q35 (fun b_35 => ?_)
          refine j_istore dX5_holds_36 (by decide) ?_
          refine j_iload dX5_holds_38 rfl ?_
          refine j_sipush dX5_holds_40 (by decide) ?_
          refine j_icmp_ge (tgt := 71) dX5_holds_43 rfl (by first | omega | (split <;> omega)) (by first | omega | (split <;> omega)) (fun c_43 => ?_) (fun c_43 => by exact absurd (by omega) c_43)
          refine j_iload dX5_holds_71 rfl ?_
          refine j_sipush dX5_holds_73 (by decide) ?_
          refine j_icmp_ne (tgt := 104) dX5_holds_76 rfl (by first | omega | (split <;> omega)) (by first | omega | (split <;> omega)) (fun c_76 => ?_) (fun c_76 => by exact absurd c_76 (by decide))
          refine j_iload dX5_holds_104 rfl ?_
          refine j_iconst dX5_holds_106 ?_
          refine j_icmp_ge (tgt := 112) dX5_holds_107 rfl (by first | omega | (split <;> omega)) (by first | omega | (split <;> omega)) (fun c_107 => ?_) (fun c_107 => by exact absurd (by omega) c_107)
          refine j_iinc dX5_holds_112 rfl (by decide) ?_
          refine j_aload_n dX5_holds_115 rfl ?_
          refine j_iload dX5_holds_116 rfl ?_
          refine j_iconst dX5_holds_118 ?_
          refine j_isub dX5_holds_119 ?_
          refine j_iload dX5_holds_120 rfl ?_
          refine j_aload_n dX5_holds_122 rfl ?_
          refine j_iload dX5_holds_123 rfl ?_
          refine j_iconst dX5_holds_125 ?_
          refine j_isub dX5_holds_126 ?_
          refine r_ialoadE dX5_holds_127 (by first | assumption | exact hsh _ _ rfl) (by first | omega | (split <;> omega)) (by first | omega | (split <;> omega)) q1 (fun b_127 => ?_)
          refine j_aload_n dX5_holds_128 rfl ?_
          refine j_iload dX5_holds_129 rfl ?_
          refine r_ialoadE dX5_holds_131 (by first | assumption | exact hsh _ _ rfl) (by first | omega | (split <;> omega)) (by first | omega | (split <;> omega)) q2 (fun b_131 => ?_)
          refine r_cs3I dX5_holds_132 csX5_46 (Nat.le_of_ble_eq_true rfl) (Nat.le_of_eq (Nat.zero_add _)) (Nat.le_of_eq (Nat.zero_add _)) (hspec) ?_
          refine r_iastore dX5_holds_135 (by first | assumption | exact hsh _ _ rfl) (by first | omega | (split <;> omega)) (by first | omega | (split <;> omega)) (by first | omega | (split <;> omega)) ?_
          refine j_iinc dX5_holds_136 rfl (by decide) ?_
          refine j_goto (tgt := 16) dX5_holds_139 rfl ?_
          exact ih2
  refine j_aload_n dX5_holds_0 rfl ?_
  refine r_getS dX5_holds_1 flX5_37 (by first | assumption | exact hsh _ _ rfl) (fx_160_4 hfx) ?_
  refine j_astore_n dX5_holds_4 (by decide) ?_
  refine j_iconst dX5_holds_5 ?_
  refine j_istore dX5_holds_6 (by decide) ?_
  refine j_aload_n dX5_holds_8 rfl ?_
  refine r_getS dX5_holds_9 flX5_27 (by first | assumption | exact hsh _ _ rfl) (by assumption) ?_
  refine j_iload_n dX5_holds_12 rfl ?_
  refine r_ialoadE dX5_holds_13 (by first | assumption | exact hsh _ _ rfl) (by first | omega | (split <;> omega)) (by first | omega | (split <;> omega)) b1 (fun b_13 => ?_)
  refine j_istore dX5_holds_14 (by decide) ?_
  exact key _ _ _ [] I none (by omega) (by omega) l6 rfl trivial (by decide) (by rw [List.sum_nil]; omega) trivial (fun a _ => rfl)
theorem mSum_in {kind p pain wet : Int} (h : (0 ≤ w 420 ∧ w 420 ≤ 12) ∧ ∀ n, 0 ≤ n → n < w 420 → WfLn w n) : 0 ≤ mSum w kind p pain wet ∧ mSum w kind p pain wet ≤ 1188 := by
  have := jfold_ind (f := fun n a => if w (421 + 4 * n) = kind ∧ mHolds w n p pain wet then a + w (421 + 4 * n + 1) else a) (a := 0) (fun k a => 0 ≤ a ∧ a ≤ k * 99) (by simp) (n := (w 420).toNat) (fun k y h0 h1 q => by
    have := (h.2 k h0 (by omega)).2.2.1
    rw [Int.add_mul, Int.one_mul]
    split <;> omega)
  unfold mSum
  rw [show (((w 420).toNat : Nat) : Int) = w 420 by omega] at this
  omega
theorem LawAt_fr {sh : List (Nat × Nat)} {I I' : Nat → Int → Int} {F : Nat → Int → Option Nat} {l : Nat} {w : Int → Int} (h : LawAt sh I F l w) (hfr : ∀ a, 185 ≤ a → I' a = I a) : LawAt sh I' F l w := by
  obtain ⟨a1, a0, la, ls, lc, nc, f, ⟨p1, p2, p3⟩, s, a2, a3⟩ := h
  refine ⟨a1, a0, la, ls, lc, nc, f, ⟨p1, p2, p3⟩, s, ?_, ?_⟩
  · rw [hfr l a0]; exact a2
  · rw [hfr l a0, hfr la p1, hfr ls p2, hfr lc p3]; exact a3
theorem sc_sumOf (hsh : ShOK sh) (hfx : FxOK F) {l : Nat} {b p pain wet : Int} (hb : b = 0 ∨ b = 1) (hl : LawAt sh I F l w) (hW : (0 ≤ w 420 ∧ w 420 ≤ 12) ∧ ∀ n, 0 ≤ n → n < w 420 → WfLn w n) (hv : vFact w p pain wet) (hC : CtxC I w p pain wet) : jS G (d + 3) mX5_sumOf [jR (some l), jI b, jR (some 160)] (sh, I, F) 0 0 (rEI (mSum w (1 - b) p pain wet) sh F (Fr1 165 I)) := by
  refine jS_go [some (jR (some l)), some (jI b), some (jR (some 160)), none, none] (by decide +kernel) rfl (by simp [jone]) (Nat.le_of_ble_eq_true rfl) rfl (fun hok => ?_)
  have key : ∀ (m : Nat) (z a : Int) (I' : Nat → Int → Int), z + m = w 420 → 0 ≤ z → a = jfold (fun n a => if w (421 + 4 * n) = 1 - b ∧ mHolds w n p pain wet then a + w (421 + 4 * n + 1) else a) 0 z.toNat → Fr1 165 I I' → jW G mX5_sumOf (d + 3) (rEI (mSum w (1 - b) p pain wet) sh F (Fr1 165 I)) 5 [some (jR (some l)), some (jI b), some (jR (some 160)), some (jI a), some (jI z)] [] (sh, I', F) 0 0 := by
    intro m
    induction m with
    | zero =>
      intro z a I' hz hz0 ha hfr
      have hl' := LawAt_fr hl (I' := I') (fun a ha => hfr a (by omega))
      obtain ⟨a1, a0, la, ls, lc, nc, ⟨f1, f2, f3⟩, ⟨p1, p2, p3⟩, ⟨s1, s2, s3⟩, a2, a3⟩ := hl'
      refine j_iload dX5_sumOf_5 rfl ?_
      refine j_aload_n dX5_sumOf_7 rfl ?_
      refine r_getIE dX5_sumOf_8 flX5_9 (by first | assumption | exact hsh _ _ rfl) a2 (fun b_8 => ?_)
      refine j_icmp_ge (tgt := 53) dX5_sumOf_11 rfl (by first | omega | (split <;> omega)) (by first | omega | (split <;> omega)) (fun c_11 => ?_) (fun c_11 => by exact absurd (by omega) c_11)
      refine j_iload_n dX5_sumOf_53 rfl ?_
      refine j_iret dX5_sumOf_54 rfl ?_
      exact rEI_of (by rw [ha, show z = w 420 by omega]; rfl) hfr
    | succ m ih =>
      intro z a I' hz hz0 ha hfr
      have hl' := LawAt_fr hl (I' := I') (fun a ha => hfr a (by omega))
      have hC' := CtxC_fr hC hfr
      have hst : jfold (fun n a => if w (421 + 4 * n) = 1 - b ∧ mHolds w n p pain wet then a + w (421 + 4 * n + 1) else a) 0 (z + 1).toNat = if w (421 + 4 * z) = 1 - b ∧ mHolds w z p pain wet then a + w (421 + 4 * z + 1) else a := by
        rw [ha]; exact jfold_s _ _ hz0
      obtain ⟨a1, a0, la, ls, lc, nc, ⟨f1, f2, f3⟩, ⟨p1, p2, p3⟩, ⟨s1, s2, s3⟩, a2, a3⟩ := id hl'
      obtain ⟨b0, b1, -⟩ := a3 z hz0 (by omega)
      have hk := (hW.2 z hz0 (by omega)).2.1
      have hone := jAnd_one (jShr (I' l 1) z)
      have hbit : jAnd (jShr (I' l 1) z) 1 = 1 ↔ w (421 + 4 * z) = 0 := b0
      have ih2 := fun a9 I9 => ih (z + 1) a9 I9 (by omega) (by omega)
      rw [hst] at ih2
      clear ih
      refine j_iload dX5_sumOf_5 rfl ?_
      refine j_aload_n dX5_sumOf_7 rfl ?_
      refine r_getIE dX5_sumOf_8 flX5_9 (by first | assumption | exact hsh _ _ rfl) a2 (fun b_8 => ?_)
      refine j_icmp_ge (tgt := 53) dX5_sumOf_11 rfl (by first | omega | (split <;> omega)) (by first | omega | (split <;> omega)) (fun c_11 => by exact absurd c_11 (by omega)) (fun c_11 => ?_)
      refine j_aload_n dX5_sumOf_14 rfl ?_
      refine r_getI dX5_sumOf_15 flX5_15 (by first | assumption | exact hsh _ _ rfl) (fun b_15 => ?_)
      refine j_iload dX5_sumOf_18 rfl ?_
      refine r_ishr dX5_sumOf_20 (fun b_20 => ?_)
      refine j_iconst dX5_sumOf_21 ?_
      refine r_iand dX5_sumOf_22 (fun b_22 => ?_)
      refine j_iload_n dX5_sumOf_23 rfl ?_
      refine j_icmp_ne (tgt := 47) dX5_sumOf_24 rfl (by first | omega | (split <;> omega)) (by first | omega | (split <;> omega)) (fun c_24 => ?_) (fun c_24 => ?_)
      · rw [if_neg (fun q => by omega)] at ih2
        refine j_iinc dX5_sumOf_47 rfl (by decide) ?_
        refine j_goto (tgt := 5) dX5_sumOf_50 rfl ?_
        first | exact ih2 _ _ rfl hfr2 | exact ih2 _ _ rfl hfr
      · refine j_aload_n dX5_sumOf_27 rfl ?_
        refine j_iload dX5_sumOf_28 rfl ?_
        refine j_aload_n dX5_sumOf_30 rfl ?_
        refine r_cv2EI dX5_sumOf_31 cvX5_33 (by decide) (by first | assumption | exact hsh _ _ rfl) (Nat.le_of_ble_eq_true rfl) (Nat.le_of_eq (Nat.zero_add _)) (Nat.le_of_eq (Nat.zero_add _)) (sc_holds hsh hfx hl' ⟨hz0, by omega⟩ (by omega) (hW.2 z hz0 (by omega)) hv hC') (fun I2 hI2 => ?_)
        have hfr2 : Fr1 165 I I2 := fun a ha => (hI2 a ha).trans (hfr a ha)
        have b1b : I2 la z = w (421 + 4 * z + 1) := by rw [hI2 la (by omega)]; exact b1
        refine j_if_eq (tgt := 47) dX5_sumOf_34 rfl (by first | omega | (split <;> omega)) (fun c_34 => ?_) (fun c_34 => ?_)
        · rw [ite0] at c_34
          rw [if_neg (fun q => c_34 q.2)] at ih2
          refine j_iinc dX5_sumOf_47 rfl (by decide) ?_
          refine j_goto (tgt := 5) dX5_sumOf_50 rfl ?_
          first | exact ih2 _ _ rfl hfr2 | exact ih2 _ _ rfl hfr
        · rw [ite0, Classical.not_not] at c_34
          rw [if_pos ⟨by omega, c_34⟩] at ih2
          refine j_iload_n dX5_sumOf_37 rfl ?_
          refine j_aload_n dX5_sumOf_38 rfl ?_
          refine r_getS dX5_sumOf_39 flX5_24 (by first | assumption | exact hsh _ _ rfl) (by assumption) ?_
          refine j_iload dX5_sumOf_42 rfl ?_
          refine r_ialoadE dX5_sumOf_44 (by first | assumption | exact hsh _ _ rfl) (by first | omega | (split <;> omega)) (by first | omega | (split <;> omega)) b1b (fun b_44 => ?_)
          refine j_iadd dX5_sumOf_45 ?_
          refine j_istore_n dX5_sumOf_46 (by decide) ?_
          refine j_iinc dX5_sumOf_47 rfl (by decide) ?_
          refine j_goto (tgt := 5) dX5_sumOf_50 rfl ?_
          first | exact ih2 _ _ rfl hfr2 | exact ih2 _ _ rfl hfr
  refine j_iconst dX5_sumOf_0 ?_
  refine j_istore_n dX5_sumOf_1 (by decide) ?_
  refine j_iconst dX5_sumOf_2 ?_
  refine j_istore dX5_sumOf_3 (by decide) ?_
  exact key (w 420).toNat 0 0 I (by omega) (by omega) rfl (fun a _ => rfl)
theorem sm_sumOf (hsh : ShOK sh) (hfx : FxOK F) {b p : Int} (hb : b = 0 ∨ b = 1) (hW : (0 ≤ I 171 420 ∧ I 171 420 ≤ 12) ∧ ∀ n, 0 ≤ n → n < I 171 420 → WfLn (I 171) n) (hv : vFact (I 171) p (I 170 18) (I 170 19)) : jS G (d + 4) mX12_sumOf [jR (some 170), jI b, jI p] (sh, I, F) 0 0 (rEI (mSum (I 171) b p (I 170 18) (I 170 19)) sh F (Fr1 178 I)) := by
  obtain ⟨w, hw⟩ : ∃ w, I 171 = w := ⟨_, rfl⟩
  obtain ⟨pain, hpn⟩ : ∃ x, I 170 18 = x := ⟨_, rfl⟩
  obtain ⟨wet, hwt⟩ : ∃ x, I 170 19 = x := ⟨_, rfl⟩
  rw [hw] at hW
  rw [hw, hpn, hwt] at hv ⊢
  refine jS_go [some (jR (some 170)), some (jI b), some (jI p), none, none] (by decide +kernel) rfl (by simp [jone]) (Nat.le_of_ble_eq_true rfl) rfl (fun hok => ?_)
  have key : ∀ (m : Nat) (z a : Int) (I' : Nat → Int → Int), z + m = w 420 → 0 ≤ z → a = jfold (fun n a => if w (421 + 4 * n) = b ∧ mHolds w n p pain wet then a + w (421 + 4 * n + 1) else a) 0 z.toNat → Fr1 178 I I' → jW G mX12_sumOf (d + 4) (rEI (mSum w b p pain wet) sh F (Fr1 178 I)) 5 [some (jR (some 170)), some (jI b), some (jI p), some (jI a), some (jI z)] [] (sh, I', F) 0 0 := by
    intro m
    induction m with
    | zero =>
      intro z a I' hz hz0 ha hfr
      have hw' : I' 171 = w := by rw [hfr 171 (by decide)]; exact hw
      refine j_iload dX12_sumOf_5 rfl ?_
      refine j_aload_n dX12_sumOf_7 rfl ?_
      refine r_getS dX12_sumOf_8 flX12_13 (by first | assumption | exact hsh _ _ rfl) (fx_170_1 hfx) ?_
      refine j_sipush dX12_sumOf_11 (by decide) ?_
      refine r_ialoadE dX12_sumOf_14 (by first | assumption | exact hsh _ _ rfl) (by first | omega | (split <;> omega)) (by first | omega | (split <;> omega)) (by rw [hw']) (fun b_14 => ?_)
      refine j_icmp_ge (tgt := 77) dX12_sumOf_15 rfl (by first | omega | (split <;> omega)) (by first | omega | (split <;> omega)) (fun c_15 => ?_) (fun c_15 => by exact absurd (by omega) c_15)
      refine j_iload_n dX12_sumOf_77 rfl ?_
      refine j_iret dX12_sumOf_78 rfl ?_
      exact rEI_of (by rw [ha, show z = w 420 by omega]; rfl) hfr
    | succ m ih =>
      intro z a I' hz hz0 ha hfr
      have hw' : I' 171 = w := by rw [hfr 171 (by decide)]; exact hw
      have hst : jfold (fun n a => if w (421 + 4 * n) = b ∧ mHolds w n p pain wet then a + w (421 + 4 * n + 1) else a) 0 (z + 1).toNat = if w (421 + 4 * z) = b ∧ mHolds w z p pain wet then a + w (421 + 4 * z + 1) else a := by
        rw [ha]; exact jfold_s _ _ hz0
      have hk := (hW.2 z hz0 (by omega)).2.1
      have hsp := sm_holdsLine (G := G) (d := d) (I := I') hsh hfx (n := z) (p := p) (by omega) (by rw [hw']; exact hW.2 z hz0 (by omega)) (by rw [hw', hfr 170 (by decide), hpn, hwt]; exact hv)
      rw [hw', hfr 170 (by decide), hpn, hwt] at hsp
      have ih2 := fun a9 I9 => ih (z + 1) a9 I9 (by omega) (by omega)
      rw [hst] at ih2
      clear ih
      refine j_iload dX12_sumOf_5 rfl ?_
      refine j_aload_n dX12_sumOf_7 rfl ?_
      refine r_getS dX12_sumOf_8 flX12_13 (by first | assumption | exact hsh _ _ rfl) (fx_170_1 hfx) ?_
      refine j_sipush dX12_sumOf_11 (by decide) ?_
      refine r_ialoadE dX12_sumOf_14 (by first | assumption | exact hsh _ _ rfl) (by first | omega | (split <;> omega)) (by first | omega | (split <;> omega)) (by rw [hw']) (fun b_14 => ?_)
      refine j_icmp_ge (tgt := 77) dX12_sumOf_15 rfl (by first | omega | (split <;> omega)) (by first | omega | (split <;> omega)) (fun c_15 => by exact absurd c_15 (by omega)) (fun c_15 => ?_)
      refine j_aload_n dX12_sumOf_18 rfl ?_
      refine r_getS dX12_sumOf_19 flX12_13 (by first | assumption | exact hsh _ _ rfl) (fx_170_1 hfx) ?_
      refine j_sipush dX12_sumOf_22 (by decide) ?_
      refine j_iconst dX12_sumOf_25 ?_
      refine j_iload dX12_sumOf_26 rfl ?_
      refine j_imul dX12_sumOf_28 ?_
      refine j_iadd dX12_sumOf_29 ?_
      refine r_ialoadE dX12_sumOf_30 (by first | assumption | exact hsh _ _ rfl) (by first | omega | (split <;> omega)) (by first | omega | (split <;> omega)) (by rw [hw']) (fun b_30 => ?_)
      refine j_iload_n dX12_sumOf_31 rfl ?_
      refine j_if_eq (tgt := 39) dX12_sumOf_32 rfl (by first | omega | (split <;> omega)) (fun c_32 => ?_) (fun c_32 => ?_)
      · refine j_iconst dX12_sumOf_39 ?_
        refine j_icmp_ne (tgt := 71) dX12_sumOf_40 rfl (by first | omega | (split <;> omega)) (by first | omega | (split <;> omega)) (fun c_40 => ?_) (fun c_40 => ?_)
        · rw [if_neg (fun q => by omega)] at ih2
          refine j_iinc dX12_sumOf_71 rfl (by decide) ?_
          refine j_goto (tgt := 5) dX12_sumOf_74 rfl ?_
          first | exact ih2 _ _ rfl hfr2 | exact ih2 _ _ rfl hfr
        · refine j_aload_n dX12_sumOf_43 rfl ?_
          refine j_iload dX12_sumOf_44 rfl ?_
          refine j_iload_n dX12_sumOf_46 rfl ?_
          refine r_cv2EI dX12_sumOf_47 cvX12_265 (by decide) (by first | assumption | exact hsh _ _ rfl) (Nat.le_of_ble_eq_true rfl) (Nat.le_of_eq (Nat.zero_add _)) (Nat.le_of_eq (Nat.zero_add _)) (hsp) (fun I2 hI2 => ?_)
          have hfr2 : Fr1 178 I I2 := fun a ha => (hI2 a ha).trans (hfr a ha)
          have hw2 : I2 171 = w := by rw [hfr2 171 (by decide)]; exact hw
          refine j_if_eq (tgt := 71) dX12_sumOf_50 rfl (by first | omega | (split <;> omega)) (fun c_50 => ?_) (fun c_50 => ?_)
          · rw [ite0] at c_50
            rw [if_neg (fun q => c_50 q.2)] at ih2
            refine j_iinc dX12_sumOf_71 rfl (by decide) ?_
            refine j_goto (tgt := 5) dX12_sumOf_74 rfl ?_
            first | exact ih2 _ _ rfl hfr2 | exact ih2 _ _ rfl hfr
          · rw [ite0, Classical.not_not] at c_50
            rw [if_pos ⟨by omega, c_50⟩] at ih2
            refine j_iload_n dX12_sumOf_53 rfl ?_
            refine j_aload_n dX12_sumOf_54 rfl ?_
            refine r_getS dX12_sumOf_55 flX12_13 (by first | assumption | exact hsh _ _ rfl) (fx_170_1 hfx) ?_
            refine j_sipush dX12_sumOf_58 (by decide) ?_
            refine j_iconst dX12_sumOf_61 ?_
            refine j_iload dX12_sumOf_62 rfl ?_
            refine j_imul dX12_sumOf_64 ?_
            refine j_iadd dX12_sumOf_65 ?_
            refine j_iconst dX12_sumOf_66 ?_
            refine j_iadd dX12_sumOf_67 ?_
            refine r_ialoadE dX12_sumOf_68 (by first | assumption | exact hsh _ _ rfl) (by first | omega | (split <;> omega)) (by first | omega | (split <;> omega)) (by rw [hw2]) (fun b_68 => ?_)
            refine j_iadd dX12_sumOf_69 ?_
            refine j_istore_n dX12_sumOf_70 (by decide) ?_
            refine j_iinc dX12_sumOf_71 rfl (by decide) ?_
            refine j_goto (tgt := 5) dX12_sumOf_74 rfl ?_
            first | exact ih2 _ _ rfl hfr2 | exact ih2 _ _ rfl hfr
      · refine j_iconst dX12_sumOf_35 ?_
        refine j_goto (tgt := 40) dX12_sumOf_36 rfl ?_
        refine j_icmp_ne (tgt := 71) dX12_sumOf_40 rfl (by first | omega | (split <;> omega)) (by first | omega | (split <;> omega)) (fun c_40 => ?_) (fun c_40 => ?_)
        · rw [if_neg (fun q => by omega)] at ih2
          refine j_iinc dX12_sumOf_71 rfl (by decide) ?_
          refine j_goto (tgt := 5) dX12_sumOf_74 rfl ?_
          first | exact ih2 _ _ rfl hfr2 | exact ih2 _ _ rfl hfr
        · refine j_aload_n dX12_sumOf_43 rfl ?_
          refine j_iload dX12_sumOf_44 rfl ?_
          refine j_iload_n dX12_sumOf_46 rfl ?_
          refine r_cv2EI dX12_sumOf_47 cvX12_265 (by decide) (by first | assumption | exact hsh _ _ rfl) (Nat.le_of_ble_eq_true rfl) (Nat.le_of_eq (Nat.zero_add _)) (Nat.le_of_eq (Nat.zero_add _)) (hsp) (fun I2 hI2 => ?_)
          have hfr2 : Fr1 178 I I2 := fun a ha => (hI2 a ha).trans (hfr a ha)
          have hw2 : I2 171 = w := by rw [hfr2 171 (by decide)]; exact hw
          refine j_if_eq (tgt := 71) dX12_sumOf_50 rfl (by first | omega | (split <;> omega)) (fun c_50 => ?_) (fun c_50 => ?_)
          · rw [ite0] at c_50
            rw [if_neg (fun q => c_50 q.2)] at ih2
            refine j_iinc dX12_sumOf_71 rfl (by decide) ?_
            refine j_goto (tgt := 5) dX12_sumOf_74 rfl ?_
            first | exact ih2 _ _ rfl hfr2 | exact ih2 _ _ rfl hfr
          · rw [ite0, Classical.not_not] at c_50
            rw [if_pos ⟨by omega, c_50⟩] at ih2
            refine j_iload_n dX12_sumOf_53 rfl ?_
            refine j_aload_n dX12_sumOf_54 rfl ?_
            refine r_getS dX12_sumOf_55 flX12_13 (by first | assumption | exact hsh _ _ rfl) (fx_170_1 hfx) ?_
            refine j_sipush dX12_sumOf_58 (by decide) ?_
            refine j_iconst dX12_sumOf_61 ?_
            refine j_iload dX12_sumOf_62 rfl ?_
            refine j_imul dX12_sumOf_64 ?_
            refine j_iadd dX12_sumOf_65 ?_
            refine j_iconst dX12_sumOf_66 ?_
            refine j_iadd dX12_sumOf_67 ?_
            refine r_ialoadE dX12_sumOf_68 (by first | assumption | exact hsh _ _ rfl) (by first | omega | (split <;> omega)) (by first | omega | (split <;> omega)) (by rw [hw2]) (fun b_68 => ?_)
            refine j_iadd dX12_sumOf_69 ?_
            refine j_istore_n dX12_sumOf_70 (by decide) ?_
            refine j_iinc dX12_sumOf_71 rfl (by decide) ?_
            refine j_goto (tgt := 5) dX12_sumOf_74 rfl ?_
            first | exact ih2 _ _ rfl hfr2 | exact ih2 _ _ rfl hfr
  refine j_iconst dX12_sumOf_0 ?_
  refine j_istore_n dX12_sumOf_1 (by decide) ?_
  refine j_iconst dX12_sumOf_2 ?_
  refine j_istore dX12_sumOf_3 (by decide) ?_
  exact key (w 420).toNat 0 0 I (by omega) (by omega) rfl (fun a _ => rfl)
end
