/-! THE TAPE -/
theorem jAnd_255 (z : Int) : jAnd z 255 = z % 256 := by
  have e : Int32.ofInt z = nI (Int32.ofInt z).toBitVec.toNat := by
    apply Int32.toBitVec_inj.1
    show (Int32.ofInt z).toBitVec = BitVec.ofNat 32 _
    rw [BitVec.ofNat_toNat, BitVec.setWidth_eq]
  have h2 : (Int32.ofInt z).toBitVec.toNat = (z % 4294967296).toNat := by
    show (BitVec.ofInt 32 z).toNat = _
    rw [BitVec.toNat_ofInt]; rfl
  unfold jAnd
  rw [e, show Int32.ofInt 255 = nI 255 from rfl, fa_and, show (255 : Nat) = 2 ^ 8 - 1 from rfl, Nat.and_two_pow_sub_one_eq_mod, h2, nI_toInt (by omega)]
  omega
theorem jB8_e {z : Int} (h : jin z) : jB8 z = if z % 256 < 128 then z % 256 else z % 256 - 256 := by
  unfold jB8
  rw [Int8.toInt_toInt32, Int32.toInt_toInt8, jn_toInt h, Int.bmod_def]
  rfl
theorem jShr_e {x : Int} (hx : jin x) : jShr x 24 = x / 16777216 ∧ jShr x 16 = x / 65536 ∧ jShr x 8 = x / 256 ∧ jShr x 0 = x := by
  have g : ∀ (s : Nat) (k : Int32), (Int32.ofInt (s : Int) &&& 31) = k → (∀ y : Int32, (y >>> k).toBitVec = y.toBitVec.sshiftRight s) → jShr x (s : Int) = x >>> s := fun s k hk h => by
    unfold jShr
    rw [hk]
    show (Int32.ofInt x >>> k).toBitVec.toInt = _
    rw [h, BitVec.toInt_sshiftRight]
    show (Int32.ofInt x).toInt >>> s = _
    rw [jn_toInt hx]
  refine ⟨?_, ?_, ?_, ?_⟩
  · have := g 24 24 (by decide +kernel) (fun y => rfl)
    rw [Int.shiftRight_eq_div_pow] at this
    exact this
  · have := g 16 16 (by decide +kernel) (fun y => rfl)
    rw [Int.shiftRight_eq_div_pow] at this
    exact this
  · have := g 8 8 (by decide +kernel) (fun y => rfl)
    rw [Int.shiftRight_eq_div_pow] at this
    exact this
  · have := g 0 0 (by decide +kernel) (fun y => rfl)
    rw [Int.shiftRight_eq_div_pow] at this
    have e : x / ((2 ^ 0 : Nat) : Int) = x := by show x / 1 = x; omega
    exact this.trans e
theorem jUshr_e {x : Int} (hx : jin x) : jUshr x 24 = x % 4294967296 / 16777216 ∧ jUshr x 16 = x % 4294967296 / 65536 ∧ jUshr x 8 = x % 4294967296 / 256 ∧ jUshr x 0 = x := by
  have hv : (Int32.ofInt x).toBitVec.toNat = (x % 4294967296).toNat := by
    show (BitVec.ofInt 32 x).toNat = _
    rw [BitVec.toNat_ofInt]; rfl
  have g : ∀ (s : Nat) (k : UInt32), ((Int32.ofInt (s : Int)).toUInt32 &&& Int32.toUInt32 31) = k → (∀ y : Int32, (y.toUInt32 >>> k).toInt32.toBitVec = y.toBitVec >>> s) → jUshr x (s : Int) = ((Int32.ofInt x).toBitVec >>> s).toInt := fun s k hk h => by
    unfold jUshr
    rw [hk]
    show (((Int32.ofInt x).toUInt32 >>> k).toInt32).toBitVec.toInt = _
    rw [h]
  have f : ∀ s : Nat, ((x % 4294967296).toNat >>> s) < 2 ^ 31 → ((Int32.ofInt x).toBitVec >>> s).toInt = (((x % 4294967296).toNat >>> s : Nat) : Int) := fun s hs => by
    rw [BitVec.toInt_eq_toNat_cond, BitVec.toNat_ushiftRight, hv, if_pos (by omega)]
  have b : (x % 4294967296).toNat < 4294967296 := by omega
  refine ⟨?_, ?_, ?_, ?_⟩
  · have h1 := g 24 24 (by decide +kernel) (fun y => rfl)
    have e : (x % 4294967296).toNat >>> 24 = (x % 4294967296).toNat / 16777216 := Nat.shiftRight_eq_div_pow _ _
    rw [f 24 (by rw [e]; omega), e] at h1
    refine h1.trans ?_
    omega
  · have h1 := g 16 16 (by decide +kernel) (fun y => rfl)
    have e : (x % 4294967296).toNat >>> 16 = (x % 4294967296).toNat / 65536 := Nat.shiftRight_eq_div_pow _ _
    rw [f 16 (by rw [e]; omega), e] at h1
    refine h1.trans ?_
    omega
  · have h1 := g 8 8 (by decide +kernel) (fun y => rfl)
    have e : (x % 4294967296).toNat >>> 8 = (x % 4294967296).toNat / 256 := Nat.shiftRight_eq_div_pow _ _
    rw [f 8 (by rw [e]; omega), e] at h1
    refine h1.trans ?_
    omega
  · have h1 := g 0 0 (by decide +kernel) (fun y => rfl)
    refine h1.trans ?_
    show ((Int32.ofInt x).toBitVec >>> 0).toInt = x
    rw [BitVec.ushiftRight_zero]
    exact jn_toInt hx
abbrev fB (x j : Int) : Int := jAnd (jUshr x (24 - 8 * j)) 255
abbrev fS (x j : Int) : Int := jB8 (jB8 (jShr x (24 - 8 * j)))
theorem fB_fS {x j : Int} (hx : jin x) (hj : 0 ≤ j ∧ j < 4) : (0 ≤ fB x j ∧ fB x j ≤ 255) ∧ fS x j = if fB x j < 128 then fB x j else fB x j - 256 := by
  obtain ⟨s1, s2, s3, s4⟩ := jShr_e hx
  obtain ⟨u1, u2, u3, u4⟩ := jUshr_e hx
  have key : ∀ a b : Int, jin a → jAnd b 255 = a % 256 → (0 ≤ jAnd b 255 ∧ jAnd b 255 ≤ 255) ∧ jB8 (jB8 a) = if jAnd b 255 < 128 then jAnd b 255 else jAnd b 255 - 256 := fun a b ha hb => by
    rw [hb]
    refine ⟨by omega, ?_⟩
    have h1 := jB8_e ha
    have h2 : jin (jB8 a) := by rw [h1]; split <;> omega
    rw [jB8_e h2, h1]
    split <;> split <;> omega
  rcases (show j = 0 ∨ j = 1 ∨ j = 2 ∨ j = 3 by omega) with rfl | rfl | rfl | rfl
  · exact key (jShr x 24) (jUshr x 24) (jShr_in _ _) (by rw [jAnd_255, s1, u1]; omega)
  · exact key (jShr x 16) (jUshr x 16) (jShr_in _ _) (by rw [jAnd_255, s2, u2]; omega)
  · exact key (jShr x 8) (jUshr x 8) (jShr_in _ _) (by rw [jAnd_255, s3, u3]; omega)
  · exact key (jShr x 0) (jUshr x 0) (jShr_in _ _) (by rw [jAnd_255, s4, u4])
def fdC (T : Int → Int) (t : Int) (x5 : Int → Int) (n : Int) : Int → Int := fun k => if t ≤ k ∧ k < t + n then fB (x5 ((k - t) / 4)) ((k - t) % 4) else T k
def fdM (T : Int → Int) (t : Int) (x5 : Int → Int) (n : Int) : Int → Int := fun k => if t ≤ k ∧ k < t + n then fS (x5 ((k - t) / 4)) ((k - t) % 4) else T k
theorem fdC_s {T x5 : Int → Int} {t z : Int} (hz : 0 ≤ z) : wup (fdC T t x5 z) (t + z) (fB (x5 (z / 4)) (z % 4)) = fdC T t x5 (z + 1) := by
  funext k
  unfold wup fdC
  by_cases e : k = t + z
  · subst e
    rw [if_pos rfl, if_pos (by omega), show t + z - t = z by omega]
  · rw [if_neg e]
    by_cases e2 : t ≤ k ∧ k < t + z
    · rw [if_pos e2, if_pos (by omega)]
    · rw [if_neg e2, if_neg (by omega)]
theorem fdM_s {T x5 : Int → Int} {t z : Int} (hz : 0 ≤ z) : wup (fdM T t x5 z) (t + z) (fS (x5 (z / 4)) (z % 4)) = fdM T t x5 (z + 1) := by
  funext k
  unfold wup fdM
  by_cases e : k = t + z
  · subst e
    rw [if_pos rfl, if_pos (by omega), show t + z - t = z by omega]
  · rw [if_neg e]
    by_cases e2 : t ≤ k ∧ k < t + z
    · rw [if_pos e2, if_pos (by omega)]
    · rw [if_neg e2, if_neg (by omega)]
theorem fdC_0 {T x5 : Int → Int} {t : Int} : fdC T t x5 0 = T := by
  funext k
  unfold fdC
  rw [if_neg (by omega)]
theorem fdM_0 {T x5 : Int → Int} {t : Int} : fdM T t x5 0 = T := by
  funext k
  unfold fdM
  rw [if_neg (by omega)]
/-- the model with another tape -/
def mzT (M : Nat → Int → Int) (T : Int → Int) (t : Int) : Nat → Int → Int := fun a => if a = 176 then T else if a = 170 then wup (M 170) 9 t else M a
theorem mzT_k {M : Nat → Int → Int} {T : Int → Int} {t k : Int} (h : k ≠ 9) : mzT M T t 170 k = M 170 k := wup_ne (M 170) _ h
theorem CR_tape {sh : List (Nat × Nat)} {I J M : Nat → Int → Int} {F : Nat → Int → Option Nat} {T : Int → Int} {t : Int} (h : CR sh I F M) (hf : ∀ a, 1 < a → J a = I a) (h0 : ∀ k, k ≠ 1 → J 0 k = I 0 k) (h1 : J 0 1 = t) (ht : 0 ≤ t ∧ t ≤ 400) (hT : ∀ k, 0 ≤ k → k < 400 → (0 ≤ J 1 k ∧ J 1 k ≤ 255) ∧ T k = (if J 1 k < 128 then J 1 k else J 1 k - 256)) : CR sh J F (mzT M T t) := by
  obtain ⟨a1, a2, a3, ⟨m1, m2, m3, m4⟩, t1, t2, t3, t4⟩ := h
  refine ⟨Sr_fr a1 (fun a b0 b1 => hf a (by omega)) (fun a ha => hf a (by omega)), by rw [h0 6 (by decide), mzT_k (by decide)]; exact a2, fun q => Sr_fr (a3 (by rw [mzT_k (by decide)] at q; exact q)) (fun a b0 b1 => hf a (by omega)) (fun a ha => hf a (by omega)), ⟨by rw [hf 32 (by decide), mzT_k (by decide)]; exact m1, by rw [mzT_k (by decide)]; exact m2, by rw [hf 32 (by decide)]; exact m3, ?_⟩, h1.trans (wup_same (M 170) 9 t).symm, by rw [show mzT M T t 170 9 = t from wup_same (M 170) 9 t]; exact ht, by rw [h0 2 (by decide), mzT_k (by decide)]; exact t3, hT⟩
  rw [hf 32 (by decide), mzT_k (by decide)]
  intro j j0 j1
  have hp : mPl ((I 32 2 + 12 - M 170 7 + j) % 12) = 34 + 10 * ((I 32 2 + 12 - M 170 7 + j) % 12).toNat := rfl
  exact Sr_fr (m4 j j0 j1) (fun a b0 b1 => hf a (by omega)) (fun a ha => hf a (by omega))
theorem MI_tape {B : Int} {M : Nat → Int → Int} {T : Int → Int} {t : Int} (h : MI B M) : MI B (mzT M T t) := by
  obtain ⟨h1, h2, h3, h4, h5⟩ := h
  exact ⟨h1, by rw [mzT_k (by decide)]; exact h2, fun q => h3 (by rw [mzT_k (by decide)] at q; exact q), by rw [mzT_k (by decide)]; exact h4, fun j j0 j1 => h5 j j0 (by rw [mzT_k (by decide)] at j1; exact j1)⟩
section
variable {G : jzG} {d : Nat} {sh : List (Nat × Nat)} {I M : Nat → Int → Int} {F : Nat → Int → Option Nat}
theorem cs_addBytes (hsh : ShOK sh) (hfx : FxOK F) {t x : Int} {x5 : Int → Int} {i : Int} (hi : 0 ≤ i ∧ i < 5) (hxi : x5 i = x) {J : Nat → Int → Int} (ht : 0 ≤ t ∧ t ≤ 380) (h1 : J 0 1 = t + 4 * i) (h2 : J 1 = fdC (I 1) t x5 (4 * i)) (h3 : ∀ k, k ≠ 1 → J 0 k = I 0 k) (h4 : ∀ a, 1 < a → J a = I a) : jS G d mX11_addBytes [jR (some 0), jI x] (sh, J, F) 0 0 (rEV sh F (fun K => K 0 1 = t + 4 * (i + 1) ∧ K 1 = fdC (I 1) t x5 (4 * (i + 1)) ∧ (∀ k, k ≠ 1 → K 0 k = I 0 k) ∧ ∀ a, 1 < a → K a = I a)) := by
  refine jS_go [some (jR (some 0)), some (jI x), none] (by decide +kernel) rfl (by simp [jone]) (Nat.le_of_ble_eq_true rfl) rfl (fun hok => ?_)
  have key : ∀ (m : Nat) (j : Int) (K : Nat → Int → Int), j + m = 4 → 0 ≤ j → K 0 1 = t + 4 * i + j → K 1 = fdC (I 1) t x5 (4 * i + j) → (∀ k, k ≠ 1 → K 0 k = I 0 k) → (∀ a, 1 < a → K a = I a) → jW G mX11_addBytes d (rEV sh F (fun K => K 0 1 = t + 4 * (i + 1) ∧ K 1 = fdC (I 1) t x5 (4 * (i + 1)) ∧ (∀ k, k ≠ 1 → K 0 k = I 0 k) ∧ ∀ a, 1 < a → K a = I a)) 3 [some (jR (some 0)), some (jI x), some (jI (24 - 8 * j))] [] (sh, K, F) 0 0 := by
    intro m
    induction m with
    | zero =>
      intro j K hj hj0 k1 k2 k3 k4
      refine j_iload_n dX11_addBytes_3 rfl ?_
      refine j_if_lt (tgt := 49) dX11_addBytes_4 rfl (by first | omega | (split <;> omega)) (fun c_4 => ?_) (fun c_4 => by exact absurd (by omega) c_4)
      refine j_vret dX11_addBytes_49 rfl ?_
      exact rEV_of ⟨by rw [k1]; omega, by rw [k2, show 4 * i + j = 4 * (i + 1) by omega], k3, k4⟩
    | succ m ih =>
      intro j K hj hj0 k1 k2 k3 k4
      obtain ⟨K2, hK2⟩ : ∃ L, L = jup K 1 (t + 4 * i + j) (fB x j) := ⟨_, rfl⟩
      have e1 : K2 1 = fdC (I 1) t x5 (4 * i + j + 1) := by
        rw [hK2, jup_at, k2, ← fdC_s (by omega), show t + (4 * i + j) = t + 4 * i + j by omega, show (4 * i + j) / 4 = i by omega, show (4 * i + j) % 4 = j by omega, hxi]
      have q35 : K2 0 1 = t + 4 * i + j := by rw [hK2, jup_ne _ _ _ (by decide)]; exact k1
      have ih2 := ih (j + 1) (jup K2 0 1 (t + 4 * i + j + 1)) (by omega) (by omega) (by rw [jup_same]; omega) (by rw [jup_ne _ _ _ (by decide), e1, show 4 * i + j + 1 = 4 * i + (j + 1) by omega]) (fun k hk => by rw [jup_row _ _ _ hk, hK2, jup_ne _ _ _ (by decide)]; exact k3 k hk) (fun a ha => by rw [jup_ne _ _ _ (by omega), hK2, jup_ne _ _ _ (by omega)]; exact k4 a ha)
      rw [show 24 - 8 * (j + 1) = 24 - 8 * j + -8 by omega] at ih2
      refine j_iload_n dX11_addBytes_3 rfl ?_
      refine j_if_lt (tgt := 49) dX11_addBytes_4 rfl (by first | omega | (split <;> omega)) (fun c_4 => by exact absurd c_4 (by omega)) (fun c_4 => ?_)
      refine j_aload_n dX11_addBytes_7 rfl ?_
      refine r_getIE dX11_addBytes_8 flX11_65 (by first | assumption | exact hsh _ _ rfl) k1 (fun b_8 => ?_)
      refine j_sipush dX11_addBytes_11 (by decide) ?_
      refine j_icmp_ge (tgt := 49) dX11_addBytes_14 rfl (by first | omega | (split <;> omega)) (by first | omega | (split <;> omega)) (fun c_14 => by exact absurd c_14 (by omega)) (fun c_14 => ?_)
      refine j_aload_n dX11_addBytes_17 rfl ?_
      refine r_getS dX11_addBytes_18 flX11_9 (by first | assumption | exact hsh _ _ rfl) (fx_0_0 hfx) ?_
      refine j_aload_n dX11_addBytes_21 rfl ?_
      refine r_getIE dX11_addBytes_22 flX11_65 (by first | assumption | exact hsh _ _ rfl) k1 (fun b_22 => ?_)
      refine j_iload_n dX11_addBytes_25 rfl ?_
      refine j_iload_n dX11_addBytes_26 rfl ?_
      refine r_iushr dX11_addBytes_27 (fun b_27 => ?_)
      refine j_sipush dX11_addBytes_28 (by decide) ?_
      refine r_iand dX11_addBytes_31 (fun b_31 => ?_)
      refine r_iastore dX11_addBytes_32 (by first | assumption | exact hsh _ _ rfl) (by first | omega | (split <;> omega)) (by first | omega | (split <;> omega)) (by first | omega | (split <;> omega)) ?_
      rw [← hK2]
      refine j_aload_n dX11_addBytes_33 rfl ?_
      refine j_dup dX11_addBytes_34 trivial ?_
      refine r_getIE dX11_addBytes_35 flX11_65 (by first | assumption | exact hsh _ _ rfl) q35 (fun b_35 => ?_)
      refine j_iconst dX11_addBytes_38 ?_
      refine j_iadd dX11_addBytes_39 ?_
      refine r_putI dX11_addBytes_40 flX11_65 rfl (by first | assumption | exact hsh _ _ rfl) (by first | omega | (split <;> omega)) (fun q => by cases q) ?_
      refine j_iinc dX11_addBytes_43 rfl (by decide) ?_
      refine j_goto (tgt := 3) dX11_addBytes_46 rfl ?_
      exact ih2
  refine j_bipush dX11_addBytes_0 (by decide) ?_
  refine j_istore_n dX11_addBytes_2 (by decide) ?_
  exact key 4 0 J (by decide) (by decide) (by rw [h1]; omega) (by rw [h2, Int.add_zero]) h3 h4
abbrev fX (a b c e f : Int) : Int → Int := fun k => if k = 0 then a else if k = 1 then b else if k = 2 then c else if k = 3 then e else f
theorem cp_feed_1 (hsh : ShOK sh) (hfx : FxOK F) (hC : CR sh I F M) {a b c e f : Int} (h : ¬ M 170 9 + 20 ≤ 400) : jS G (d + 6) mX11_feed [jR (some 0), jI a, jI b, jI c, jI e, jI f] (sh, I, F) 0 0 (rI (-1) (sh, I, F)) := by
  obtain ⟨-, -, -, -, t1, t2, -⟩ := hC
  refine jS_go [some (jR (some 0)), some (jI a), some (jI b), some (jI c), some (jI e), some (jI f)] (by decide +kernel) rfl (by simp [jone]) (Nat.le_of_ble_eq_true rfl) rfl (fun hok => ?_)
  refine j_aload_n dX11_feed_0 rfl ?_
  refine r_getIE dX11_feed_1 flX11_65 (by first | assumption | exact hsh _ _ rfl) t1 (fun b_1 => ?_)
  refine j_bipush dX11_feed_4 (by decide) ?_
  refine j_iadd dX11_feed_6 ?_
  refine j_sipush dX11_feed_7 (by decide) ?_
  refine j_icmp_le (tgt := 15) dX11_feed_10 rfl (by first | omega | (split <;> omega)) (by first | omega | (split <;> omega)) (fun c_10 => by exact absurd c_10 h) (fun c_10 => ?_)
  refine j_iconst dX11_feed_13 ?_
  refine j_iret dX11_feed_14 rfl ?_
  exact rI_of rfl rfl
theorem cp_feed_0 (hP : Pl sh F) (hC : CR sh I F M) {a b c e f : Int} (ha : jin a) (hb : jin b) (hc : jin c) (he : jin e) (hf : jin f) (h : M 170 9 + 20 ≤ 400) : jS G (d + 6) mX11_feed [jR (some 0), jI a, jI b, jI c, jI e, jI f] (sh, I, F) 0 0 (rHI (M 170 9 + 20) sh (CaO sh I (mzT M (fdM (M 176) (M 170 9) (fX a b c e f) 20) (M 170 9 + 20)))) := by
  obtain ⟨hsh, hfx, -⟩ := id hP
  obtain ⟨-, -, -, -, t1, t2, t3, t4⟩ := id hC
  obtain ⟨t, ht⟩ : ∃ t, M 170 9 = t := ⟨_, rfl⟩
  rw [ht] at t1 t2 h ⊢
  have jx : ∀ k, jin (fX a b c e f k) := fun k => by show jin (ite _ _ _); split; exact ha; split; exact hb; split; exact hc; split; exact he; exact hf
  have sB := fun i x hi hxi J h1 h2 h3 h4 => cs_addBytes (G := G) (d := d + 5) (I := I) (F := F) hsh hfx (t := t) (x := x) (x5 := fX a b c e f) (i := i) hi hxi (J := J) (by omega) h1 h2 h3 h4
  refine jS_go [some (jR (some 0)), some (jI a), some (jI b), some (jI c), some (jI e), some (jI f)] (by decide +kernel) rfl (by simp [jone]) (Nat.le_of_ble_eq_true rfl) rfl (fun hok => ?_)
  refine j_aload_n dX11_feed_0 rfl ?_
  refine r_getIE dX11_feed_1 flX11_65 (by first | assumption | exact hsh _ _ rfl) t1 (fun b_1 => ?_)
  refine j_bipush dX11_feed_4 (by decide) ?_
  refine j_iadd dX11_feed_6 ?_
  refine j_sipush dX11_feed_7 (by decide) ?_
  refine j_icmp_le (tgt := 15) dX11_feed_10 rfl (by first | omega | (split <;> omega)) (by first | omega | (split <;> omega)) (fun c_10 => ?_) (fun c_10 => by exact absurd h c_10)
  refine j_aload_n dX11_feed_15 rfl ?_
  refine j_iload_n dX11_feed_16 rfl ?_
  refine r_cv1EV dX11_feed_17 cvX11_68 (by decide) (by first | assumption | exact hsh _ _ rfl) (Nat.le_of_ble_eq_true rfl) (Nat.le_of_eq (Nat.zero_add _)) (Nat.le_of_eq (Nat.zero_add _)) (sB 0 a (by decide) rfl I (by omega) (by rw [show (4 : Int) * 0 = 0 from rfl, fdC_0]) (fun _ _ => rfl) (fun _ _ => rfl)) (fun J1 h1 => ?_)
  refine j_aload_n dX11_feed_20 rfl ?_
  refine j_iload_n dX11_feed_21 rfl ?_
  refine r_cv1EV dX11_feed_22 cvX11_68 (by decide) (by first | assumption | exact hsh _ _ rfl) (Nat.le_of_ble_eq_true rfl) (Nat.le_of_eq (Nat.zero_add _)) (Nat.le_of_eq (Nat.zero_add _)) (sB 1 b (by decide) rfl J1 h1.1 h1.2.1 h1.2.2.1 h1.2.2.2) (fun J2 h2 => ?_)
  refine j_aload_n dX11_feed_25 rfl ?_
  refine j_iload_n dX11_feed_26 rfl ?_
  refine r_cv1EV dX11_feed_27 cvX11_68 (by decide) (by first | assumption | exact hsh _ _ rfl) (Nat.le_of_ble_eq_true rfl) (Nat.le_of_eq (Nat.zero_add _)) (Nat.le_of_eq (Nat.zero_add _)) (sB 2 c (by decide) rfl J2 h2.1 h2.2.1 h2.2.2.1 h2.2.2.2) (fun J3 h3 => ?_)
  refine j_aload_n dX11_feed_30 rfl ?_
  refine j_iload dX11_feed_31 rfl ?_
  refine r_cv1EV dX11_feed_33 cvX11_68 (by decide) (by first | assumption | exact hsh _ _ rfl) (Nat.le_of_ble_eq_true rfl) (Nat.le_of_eq (Nat.zero_add _)) (Nat.le_of_eq (Nat.zero_add _)) (sB 3 e (by decide) rfl J3 h3.1 h3.2.1 h3.2.2.1 h3.2.2.2) (fun J4 h4 => ?_)
  refine j_aload_n dX11_feed_36 rfl ?_
  refine j_iload dX11_feed_37 rfl ?_
  refine r_cv1EV dX11_feed_39 cvX11_68 (by decide) (by first | assumption | exact hsh _ _ rfl) (Nat.le_of_ble_eq_true rfl) (Nat.le_of_eq (Nat.zero_add _)) (Nat.le_of_eq (Nat.zero_add _)) (sB 4 f (by decide) rfl J4 h4.1 h4.2.1 h4.2.2.1 h4.2.2.2) (fun J5 h5 => ?_)
  have q : J5 0 1 = t + 20 := h5.1
  refine j_aload_n dX11_feed_42 rfl ?_
  refine r_getIE dX11_feed_43 flX11_65 (by first | assumption | exact hsh _ _ rfl) q (fun b_43 => ?_)
  refine j_iret dX11_feed_46 rfl ?_
  refine ⟨J5, F, rfl, rfl, hP, CR_tape hC h5.2.2.2 h5.2.2.1 q (by omega) (fun k k0 k1 => ?_), fun a ha => h5.2.2.2 a (by omega)⟩
  have e5 : J5 1 = fdC (I 1) t (fX a b c e f) 20 := h5.2.1
  rw [e5]
  unfold fdC fdM
  by_cases c9 : t ≤ k ∧ k < t + 20
  · rw [if_pos c9, if_pos c9]
    exact fB_fS (jx _) (by omega)
  · rw [if_neg c9, if_neg c9]
    exact t4 k k0 k1
theorem mp_feed_1 (hsh : ShOK sh) (hfx : FxOK F) {a b c e f : Int} (ht : 0 ≤ I 170 9 ∧ I 170 9 ≤ 400) (h : ¬ I 170 9 + 20 ≤ 400) : jS G (d + 6) mX12_feed [jR (some 170), jI a, jI b, jI c, jI e, jI f] (sh, I, F) 0 0 (rI (-1) (sh, jup I 170 0 0, F)) := by
  refine jS_go [some (jR (some 170)), some (jI a), some (jI b), some (jI c), some (jI e), some (jI f), none] (by decide +kernel) rfl (by simp [jone]) (Nat.le_of_ble_eq_true rfl) rfl (fun hok => ?_)
  refine j_aload_n dX12_feed_0 rfl ?_
  refine j_iconst dX12_feed_1 ?_
  refine r_putI dX12_feed_2 flX12_3 rfl (by first | assumption | exact hsh _ _ rfl) (by first | omega | (split <;> omega)) (fun q => by cases q) ?_
  skip
  have hok1 : jzok (sh, jup I 170 0 0, F) := jzok_I hok jin_lit0
  have hw0 : (jup I 170 0 0) 171 = I 171 := jup_ne _ _ _ (by decide)
  clear hok
  try rw [← hw0]
  obtain ⟨I1, hI1⟩ : ∃ J, J = jup I 170 0 0 := ⟨_, rfl⟩
  rw [← hI1] at hok1 hw0  ⊢
  have hok := hok1
  have q : I1 170 9 = I 170 9 := by rw [hI1, jup_row _ _ _ (by decide)]
  refine j_aload_n dX12_feed_5 rfl ?_
  refine r_getIE dX12_feed_6 flX12_83 (by first | assumption | exact hsh _ _ rfl) q (fun b_6 => ?_)
  refine j_bipush dX12_feed_9 (by decide) ?_
  refine j_iadd dX12_feed_11 ?_
  refine j_sipush dX12_feed_12 (by decide) ?_
  refine j_icmp_le (tgt := 20) dX12_feed_15 rfl (by first | omega | (split <;> omega)) (by first | omega | (split <;> omega)) (fun c_15 => by exact absurd c_15 h) (fun c_15 => ?_)
  refine j_iconst dX12_feed_18 ?_
  refine j_iret dX12_feed_19 rfl ?_
  exact rI_of rfl rfl
theorem mp_feed_0 (hsh : ShOK sh) (hfx : FxOK F) {a b c e f : Int} (ha : jin a) (hb : jin b) (hc : jin c) (he : jin e) (hf : jin f) (ht : 0 ≤ I 170 9 ∧ I 170 9 ≤ 400) (h : I 170 9 + 20 ≤ 400) : jS G (d + 6) mX12_feed [jR (some 170), jI a, jI b, jI c, jI e, jI f] (sh, I, F) 0 0 (rEI (I 170 9 + 20) sh F (AcO 0 I (mzT I (fdM (I 176) (I 170 9) (fX a b c e f) 20) (I 170 9 + 20)))) := by
  obtain ⟨t, htt⟩ : ∃ t, I 170 9 = t := ⟨_, rfl⟩
  rw [htt] at ht h ⊢
  refine jS_go [some (jR (some 170)), some (jI a), some (jI b), some (jI c), some (jI e), some (jI f), none] (by decide +kernel) rfl (by simp [jone]) (Nat.le_of_ble_eq_true rfl) rfl (fun hok => ?_)
  refine j_aload_n dX12_feed_0 rfl ?_
  refine j_iconst dX12_feed_1 ?_
  refine r_putI dX12_feed_2 flX12_3 rfl (by first | assumption | exact hsh _ _ rfl) (by first | omega | (split <;> omega)) (fun q => by cases q) ?_
  skip
  have hok1 : jzok (sh, jup I 170 0 0, F) := jzok_I hok jin_lit0
  obtain ⟨I1, hI1⟩ : ∃ J, J = jup I 170 0 0 := ⟨_, rfl⟩
  rw [← hI1] at hok1 ⊢
  have hok0 := hok
  clear hok
  have hok := hok1
  have fr1 : ∀ a, a ≠ 170 → I1 a = I a := fun a ha => by rw [hI1, jup_ne _ _ _ ha]
  have fr1k : ∀ k, k ≠ 0 → I1 170 k = I 170 k := fun k hk => by rw [hI1, jup_row _ _ _ hk]
  have fr1c : I1 170 0 = 0 := by rw [hI1, jup_same]
  have hw0 : I1 171 = I 171 := fr1 171 (by decide)
  have q : I1 170 9 = t := (fr1k 9 (by decide)).trans htt
  obtain ⟨J, hJ⟩ : ∃ J, J = jup (jup (jup (jup (jup I1 177 0 a) 177 1 b) 177 2 c) 177 3 e) 177 4 f := ⟨_, rfl⟩
  have fJ : ∀ x, x ≠ 177 → J x = I1 x := fun x hx => by rw [hJ, jup_ne _ _ _ hx, jup_ne _ _ _ hx, jup_ne _ _ _ hx, jup_ne _ _ _ hx, jup_ne _ _ _ hx]
  have x5 : ∀ k, 0 ≤ k → k < 5 → J 177 k = fX a b c e f k := fun k k0 k1 => by
    rw [hJ]
    rcases (show k = 0 ∨ k = 1 ∨ k = 2 ∨ k = 3 ∨ k = 4 by omega) with rfl | rfl | rfl | rfl | rfl
    · rw [jup_row _ _ _ (by decide), jup_row _ _ _ (by decide), jup_row _ _ _ (by decide), jup_row _ _ _ (by decide), jup_same]; rfl
    · rw [jup_row _ _ _ (by decide), jup_row _ _ _ (by decide), jup_row _ _ _ (by decide), jup_same]; rfl
    · rw [jup_row _ _ _ (by decide), jup_row _ _ _ (by decide), jup_same]; rfl
    · rw [jup_row _ _ _ (by decide), jup_same]; rfl
    · rw [jup_same]; rfl
  have key : ∀ (m : Nat) (z : Int) (K : Nat → Int → Int), z + m = 20 → 0 ≤ z → K 176 = fdM (I 176) t (fX a b c e f) z → (∀ x, x ≠ 176 → K x = J x) → jW G mX12_feed (d + 6) (rEI (t + 20) sh F (AcO 0 I (mzT I (fdM (I 176) t (fX a b c e f) 20) (t + 20)))) 60 [some (jR (some 170)), some (jI a), some (jI b), some (jI c), some (jI e), some (jI f), some (jI z)] [] (sh, K, F) 0 0 := by
    intro m
    induction m with
    | zero =>
      intro z K hz hz0 k1 k2
      have ez : z = 20 := by omega
      subst ez
      have q2 : K 170 9 = t := by rw [k2 170 (by decide), fJ 170 (by decide)]; exact q
      refine j_iload dX12_feed_60 rfl ?_
      refine j_bipush dX12_feed_62 (by decide) ?_
      refine j_icmp_ge (tgt := 106) dX12_feed_64 rfl (by first | omega | (split <;> omega)) (by first | omega | (split <;> omega)) (fun c_64 => ?_) (fun c_64 => by exact absurd (by decide) c_64)
      refine j_aload_n dX12_feed_106 rfl ?_
      refine j_dup dX12_feed_107 trivial ?_
      refine r_getIE dX12_feed_108 flX12_83 (by first | assumption | exact hsh _ _ rfl) q2 (fun b_108 => ?_)
      refine j_bipush dX12_feed_111 (by decide) ?_
      refine j_iadd dX12_feed_113 ?_
      refine r_putI dX12_feed_114 flX12_83 rfl (by first | assumption | exact hsh _ _ rfl) (by first | omega | (split <;> omega)) (fun q => by cases q) ?_
      refine j_aload_n dX12_feed_117 rfl ?_
      refine r_getIE dX12_feed_118 flX12_83 (by first | assumption | exact hsh _ _ rfl) (jup_same K 170 9 (t + 20)) (fun b_118 => ?_)
      refine j_iret dX12_feed_121 rfl ?_
      refine rEI_of rfl ⟨?_, ⟨?_, ?_, ?_, ?_, ?_, ?_, ?_, ?_⟩, fun x hx => ?_⟩
      · rw [jup_row _ _ _ (by decide), k2 170 (by decide), fJ 170 (by decide), fr1c]
      · rw [jup_ne _ _ _ (by decide), k2 171 (by decide), fJ 171 (by decide), fr1 171 (by decide)]; rfl
      · rw [jup_ne _ _ _ (by decide), k2 172 (by decide), fJ 172 (by decide), fr1 172 (by decide)]; rfl
      · rw [jup_ne _ _ _ (by decide), k2 175 (by decide), fJ 175 (by decide), fr1 175 (by decide)]; rfl
      · rw [jup_ne _ _ _ (by decide), k1]; rfl
      · rw [jup_row _ _ _ (by decide), k2 170 (by decide), fJ 170 (by decide), fr1k 6 (by decide)]; exact (mzT_k (by decide)).symm
      · rw [jup_row _ _ _ (by decide), k2 170 (by decide), fJ 170 (by decide), fr1k 7 (by decide)]; exact (mzT_k (by decide)).symm
      · rw [jup_same]; exact (wup_same (I 170) 9 (t + 20)).symm
      · rw [jup_row _ _ _ (by decide), k2 170 (by decide), fJ 170 (by decide), fr1k 14 (by decide)]; exact (mzT_k (by decide)).symm
      · rw [jup_ne _ _ _ (by omega), k2 x (by omega), fJ x (by omega), fr1 x (by omega)]
    | succ m ih =>
      intro z K hz hz0 k1 k2
      have q2 : K 170 9 = t := by rw [k2 170 (by decide), fJ 170 (by decide)]; exact q
      have q3 : K 177 (z / 4) = fX a b c e f (z / 4) := by rw [k2 177 (by decide)]; exact x5 _ (by omega) (by omega)
      refine j_iload dX12_feed_60 rfl ?_
      refine j_bipush dX12_feed_62 (by decide) ?_
      refine j_icmp_ge (tgt := 106) dX12_feed_64 rfl (by first | omega | (split <;> omega)) (by first | omega | (split <;> omega)) (fun c_64 => by exact absurd c_64 (by omega)) (fun c_64 => ?_)
      refine j_aload_n dX12_feed_67 rfl ?_
      refine r_getS dX12_feed_68 flX12_29 (by first | assumption | exact hsh _ _ rfl) (fx_170_8 hfx) ?_
      refine j_aload_n dX12_feed_71 rfl ?_
      refine r_getIE dX12_feed_72 flX12_83 (by first | assumption | exact hsh _ _ rfl) q2 (fun b_72 => ?_)
      refine j_iload dX12_feed_75 rfl ?_
      refine j_iadd dX12_feed_77 ?_
      refine j_aload_n dX12_feed_78 rfl ?_
      refine r_getS dX12_feed_79 flX12_36 (by first | assumption | exact hsh _ _ rfl) (fx_170_15 hfx) ?_
      refine j_iload dX12_feed_82 rfl ?_
      refine j_iconst dX12_feed_84 ?_
      refine r_idivN dX12_feed_85 (by first | omega | (split <;> omega)) (by first | omega | (split <;> omega)) ?_
      refine r_ialoadE dX12_feed_86 (by first | assumption | exact hsh _ _ rfl) (by first | omega | (split <;> omega)) (by first | omega | (split <;> omega)) q3 (fun b_86 => ?_)
      refine j_bipush dX12_feed_87 (by decide) ?_
      refine j_bipush dX12_feed_89 (by decide) ?_
      refine j_iload dX12_feed_91 rfl ?_
      refine j_iconst dX12_feed_93 ?_
      refine r_iremN dX12_feed_94 (by first | omega | (split <;> omega)) (by first | omega | (split <;> omega)) ?_
      refine j_imul dX12_feed_95 ?_
      refine j_isub dX12_feed_96 ?_
      refine r_ishr dX12_feed_97 (fun b_97 => ?_)
      refine j_i2b dX12_feed_98 ?_
      refine r_bastore dX12_feed_99 (by first | assumption | exact hsh _ _ rfl) (by first | omega | (split <;> omega)) (by first | omega | (split <;> omega)) ?_
      refine j_iinc dX12_feed_100 rfl (by decide) ?_
      refine j_goto (tgt := 60) dX12_feed_103 rfl ?_
      exact ih (z + 1) _ (by omega) (by omega) (by rw [jup_at, k1]; exact fdM_s hz0) (fun x hx => by rw [jup_ne _ _ _ hx]; exact k2 x hx)
  refine j_aload_n dX12_feed_5 rfl ?_
  refine r_getIE dX12_feed_6 flX12_83 (by first | assumption | exact hsh _ _ rfl) q (fun b_6 => ?_)
  refine j_bipush dX12_feed_9 (by decide) ?_
  refine j_iadd dX12_feed_11 ?_
  refine j_sipush dX12_feed_12 (by decide) ?_
  refine j_icmp_le (tgt := 20) dX12_feed_15 rfl (by first | omega | (split <;> omega)) (by first | omega | (split <;> omega)) (fun c_15 => ?_) (fun c_15 => by exact absurd h c_15)
  refine j_aload_n dX12_feed_20 rfl ?_
  refine r_getS dX12_feed_21 flX12_36 (by first | assumption | exact hsh _ _ rfl) (fx_170_15 hfx) ?_
  refine j_iconst dX12_feed_24 ?_
  refine j_iload_n dX12_feed_25 rfl ?_
  refine r_iastore dX12_feed_26 (by first | assumption | exact hsh _ _ rfl) (by first | omega | (split <;> omega)) (by first | omega | (split <;> omega)) (by first | omega | (split <;> omega)) ?_
  refine j_aload_n dX12_feed_27 rfl ?_
  refine r_getS dX12_feed_28 flX12_36 (by first | assumption | exact hsh _ _ rfl) (fx_170_15 hfx) ?_
  refine j_iconst dX12_feed_31 ?_
  refine j_iload_n dX12_feed_32 rfl ?_
  refine r_iastore dX12_feed_33 (by first | assumption | exact hsh _ _ rfl) (by first | omega | (split <;> omega)) (by first | omega | (split <;> omega)) (by first | omega | (split <;> omega)) ?_
  refine j_aload_n dX12_feed_34 rfl ?_
  refine r_getS dX12_feed_35 flX12_36 (by first | assumption | exact hsh _ _ rfl) (fx_170_15 hfx) ?_
  refine j_iconst dX12_feed_38 ?_
  refine j_iload_n dX12_feed_39 rfl ?_
  refine r_iastore dX12_feed_40 (by first | assumption | exact hsh _ _ rfl) (by first | omega | (split <;> omega)) (by first | omega | (split <;> omega)) (by first | omega | (split <;> omega)) ?_
  refine j_aload_n dX12_feed_41 rfl ?_
  refine r_getS dX12_feed_42 flX12_36 (by first | assumption | exact hsh _ _ rfl) (fx_170_15 hfx) ?_
  refine j_iconst dX12_feed_45 ?_
  refine j_iload dX12_feed_46 rfl ?_
  refine r_iastore dX12_feed_48 (by first | assumption | exact hsh _ _ rfl) (by first | omega | (split <;> omega)) (by first | omega | (split <;> omega)) (by first | omega | (split <;> omega)) ?_
  refine j_aload_n dX12_feed_49 rfl ?_
  refine r_getS dX12_feed_50 flX12_36 (by first | assumption | exact hsh _ _ rfl) (fx_170_15 hfx) ?_
  refine j_iconst dX12_feed_53 ?_
  refine j_iload dX12_feed_54 rfl ?_
  refine r_iastore dX12_feed_56 (by first | assumption | exact hsh _ _ rfl) (by first | omega | (split <;> omega)) (by first | omega | (split <;> omega)) (by first | omega | (split <;> omega)) ?_
  rw [← hJ]
  refine j_iconst dX12_feed_57 ?_
  refine j_istore dX12_feed_58 (by decide) ?_
  exact key 20 0 J (by decide) (by decide) (by rw [fdM_0, fJ 176 (by decide), fr1 176 (by decide)]) (fun _ _ => rfl)
/-! ### the end of a text -/
theorem cp_end (hP : Pl sh F) (hC : CR sh I F M) {n : Int} (hn : jin n) : jS G (d + 6) mX11_end [jR (some 0), jI n] (sh, I, F) 0 0 (rHI (if 0 ≤ n ∧ n ≤ M 170 9 then 1 else 0) sh (CaO sh I (if 0 ≤ n ∧ n ≤ M 170 9 then mzT M (M 176) n else M))) := by
  obtain ⟨hsh, hfx, -⟩ := id hP
  obtain ⟨-, -, -, -, t1, t2, t3, t4⟩ := id hC
  refine jS_go [some (jR (some 0)), some (jI n)] (by decide +kernel) rfl (by simp [jone]) (Nat.le_of_ble_eq_true rfl) rfl (fun hok => ?_)
  by_cases e : 0 ≤ n ∧ n ≤ M 170 9
  · rw [if_pos e, if_pos e]
    refine j_iload_n dX11_end_0 rfl ?_
    refine j_if_lt (tgt := 12) dX11_end_1 rfl (by first | omega | (split <;> omega)) (fun c_1 => by exact absurd c_1 (by omega)) (fun c_1 => ?_)
    refine j_iload_n dX11_end_4 rfl ?_
    refine j_aload_n dX11_end_5 rfl ?_
    refine r_getIE dX11_end_6 flX11_65 (by first | assumption | exact hsh _ _ rfl) t1 (fun b_6 => ?_)
    refine j_icmp_le (tgt := 14) dX11_end_9 rfl (by first | omega | (split <;> omega)) (by first | omega | (split <;> omega)) (fun c_9 => ?_) (fun c_9 => by exact absurd e.2 c_9)
    refine j_aload_n dX11_end_14 rfl ?_
    refine j_iload_n dX11_end_15 rfl ?_
    refine r_putI dX11_end_16 flX11_65 rfl (by first | assumption | exact hsh _ _ rfl) (by first | omega | (split <;> omega)) (fun q => by cases q) ?_
    refine j_iconst dX11_end_19 ?_
    refine j_zret dX11_end_20 rfl (by omega) ?_
    exact ⟨_, F, rfl, rfl, hP, CR_tape hC (fun a ha => jup_ne _ _ _ (by omega)) (fun k hk => jup_row _ _ _ hk) (jup_same _ _ _ _) (by omega) (fun k k0 k1 => by rw [jup_ne _ _ _ (by decide)]; exact t4 k k0 k1), fun a ha => jup_ne _ _ _ (by omega)⟩
  · rw [if_neg e, if_neg e]
    refine j_iload_n dX11_end_0 rfl ?_
    refine j_if_lt (tgt := 12) dX11_end_1 rfl (by first | omega | (split <;> omega)) (fun c_1 => ?_) (fun c_1 => ?_)
    · refine j_iconst dX11_end_12 ?_
      refine j_zret dX11_end_13 rfl (by omega) ?_
      exact ⟨_, F, rfl, rfl, hP, hC, fun _ _ => rfl⟩
    · refine j_iload_n dX11_end_4 rfl ?_
      refine j_aload_n dX11_end_5 rfl ?_
      refine r_getIE dX11_end_6 flX11_65 (by first | assumption | exact hsh _ _ rfl) t1 (fun b_6 => ?_)
      refine j_icmp_le (tgt := 14) dX11_end_9 rfl (by first | omega | (split <;> omega)) (by first | omega | (split <;> omega)) (fun c_9 => by exact absurd c_9 (by omega)) (fun c_9 => ?_)
      refine j_iconst dX11_end_12 ?_
      refine j_zret dX11_end_13 rfl (by omega) ?_
      exact ⟨_, F, rfl, rfl, hP, hC, fun _ _ => rfl⟩
theorem mp_end (hsh : ShOK sh) (hfx : FxOK F) {n : Int} (hn : jin n) (ht : 0 ≤ I 170 9 ∧ I 170 9 ≤ 400) : jS G (d + 6) mX12_end [jR (some 170), jI n] (sh, I, F) 0 0 (rEI (if 0 ≤ n ∧ n ≤ I 170 9 then 1 else 0) sh F (AcO 0 I (if 0 ≤ n ∧ n ≤ I 170 9 then mzT I (I 176) n else I))) := by
  refine jS_go [some (jR (some 170)), some (jI n)] (by decide +kernel) rfl (by simp [jone]) (Nat.le_of_ble_eq_true rfl) rfl (fun hok => ?_)
  refine j_aload_n dX12_end_0 rfl ?_
  refine j_iconst dX12_end_1 ?_
  refine r_putI dX12_end_2 flX12_3 rfl (by first | assumption | exact hsh _ _ rfl) (by first | omega | (split <;> omega)) (fun q => by cases q) ?_
  skip
  have hok1 : jzok (sh, jup I 170 0 0, F) := jzok_I hok jin_lit0
  obtain ⟨I1, hI1⟩ : ∃ J, J = jup I 170 0 0 := ⟨_, rfl⟩
  rw [← hI1] at hok1 ⊢
  have hok0 := hok
  clear hok
  have hok := hok1
  have fr1 : ∀ a, a ≠ 170 → I1 a = I a := fun a ha => by rw [hI1, jup_ne _ _ _ ha]
  have fr1k : ∀ k, k ≠ 0 → I1 170 k = I 170 k := fun k hk => by rw [hI1, jup_row _ _ _ hk]
  have fr1c : I1 170 0 = 0 := by rw [hI1, jup_same]
  have hw0 : I1 171 = I 171 := fr1 171 (by decide)
  have q : I1 170 9 = I 170 9 := fr1k 9 (by decide)
  by_cases e : 0 ≤ n ∧ n ≤ I 170 9
  · rw [if_pos e, if_pos e]
    refine j_iload_n dX12_end_5 rfl ?_
    refine j_if_lt (tgt := 17) dX12_end_6 rfl (by first | omega | (split <;> omega)) (fun c_6 => by exact absurd c_6 (by omega)) (fun c_6 => ?_)
    refine j_iload_n dX12_end_9 rfl ?_
    refine j_aload_n dX12_end_10 rfl ?_
    refine r_getIE dX12_end_11 flX12_83 (by first | assumption | exact hsh _ _ rfl) q (fun b_11 => ?_)
    refine j_icmp_le (tgt := 19) dX12_end_14 rfl (by first | omega | (split <;> omega)) (by first | omega | (split <;> omega)) (fun c_14 => ?_) (fun c_14 => by exact absurd e.2 c_14)
    refine j_aload_n dX12_end_19 rfl ?_
    refine j_iload_n dX12_end_20 rfl ?_
    refine r_putI dX12_end_21 flX12_83 rfl (by first | assumption | exact hsh _ _ rfl) (by first | omega | (split <;> omega)) (fun q => by cases q) ?_
    refine j_iconst dX12_end_24 ?_
    refine j_zret dX12_end_25 rfl (by omega) ?_
    refine rEI_of rfl ⟨?_, ⟨?_, ?_, ?_, ?_, ?_, ?_, ?_, ?_⟩, fun x hx => ?_⟩
    · rw [jup_row _ _ _ (by decide), fr1c]
    · rw [jup_ne _ _ _ (by decide), fr1 171 (by decide)]; rfl
    · rw [jup_ne _ _ _ (by decide), fr1 172 (by decide)]; rfl
    · rw [jup_ne _ _ _ (by decide), fr1 175 (by decide)]; rfl
    · rw [jup_ne _ _ _ (by decide), fr1 176 (by decide)]; rfl
    · rw [jup_row _ _ _ (by decide), fr1k 6 (by decide)]; exact (mzT_k (by decide)).symm
    · rw [jup_row _ _ _ (by decide), fr1k 7 (by decide)]; exact (mzT_k (by decide)).symm
    · rw [jup_same]; exact (wup_same (I 170) 9 n).symm
    · rw [jup_row _ _ _ (by decide), fr1k 14 (by decide)]; exact (mzT_k (by decide)).symm
    · rw [jup_ne _ _ _ (by omega), fr1 x (by omega)]
  · rw [if_neg e, if_neg e]
    refine j_iload_n dX12_end_5 rfl ?_
    refine j_if_lt (tgt := 17) dX12_end_6 rfl (by first | omega | (split <;> omega)) (fun c_6 => ?_) (fun c_6 => ?_)
    · refine j_iconst dX12_end_17 ?_
      refine j_zret dX12_end_18 rfl (by omega) ?_
      rw [hI1]
      exact rEI_of rfl AcO_0
    · refine j_iload_n dX12_end_9 rfl ?_
      refine j_aload_n dX12_end_10 rfl ?_
      refine r_getIE dX12_end_11 flX12_83 (by first | assumption | exact hsh _ _ rfl) q (fun b_11 => ?_)
      refine j_icmp_le (tgt := 19) dX12_end_14 rfl (by first | omega | (split <;> omega)) (by first | omega | (split <;> omega)) (fun c_14 => by exact absurd c_14 (by omega)) (fun c_14 => ?_)
      refine j_iconst dX12_end_17 ?_
      refine j_zret dX12_end_18 rfl (by omega) ?_
      rw [hI1]
      exact rEI_of rfl AcO_0
end
