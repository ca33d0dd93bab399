/-! A DAY OF THE MODEL: what one puts, draws and feels -/
theorem jAnd_mask (x : Int) : 0 ≤ jAnd x 32767 ∧ jAnd x 32767 ≤ 32767 := by
  have e : Int32.ofInt x = nI (Int32.ofInt x).toBitVec.toNat := by
    apply Int32.toBitVec_inj.1
    show (Int32.ofInt x).toBitVec = BitVec.ofNat 32 _
    rw [BitVec.ofNat_toNat, BitVec.setWidth_eq]
  have h1 : (Int32.ofInt x).toBitVec.toNat &&& 32767 ≤ 32767 := Nat.and_le_right
  unfold jAnd
  rw [e, show Int32.ofInt 32767 = nI 32767 from rfl, fa_and, nI_toInt (by omega)]
  omega
theorem jshr_ushr (x : Int) : jAnd (jUshr x 16) 32767 = jAnd (jShr x 16) 32767 := by
  unfold jAnd jUshr jShr
  rw [jn_of, jn_of]
  congr 1
  generalize Int32.ofInt x = y
  have e : (Int32.ofInt 16 &&& 31) = 16 := by decide +kernel
  have e2 : ((Int32.ofInt 16).toUInt32 &&& Int32.toUInt32 31) = 16 := by decide +kernel
  rw [e, e2]
  apply Int32.toBitVec_inj.1
  have h1 : (y >>> (16 : Int32)).toBitVec = y.toBitVec.sshiftRight 16 := by
    show y.toBitVec.sshiftRight' ((16 : Int32).toBitVec.smod 32) = _
    rfl
  have h2 : (y.toUInt32 >>> (16 : UInt32)).toInt32.toBitVec = y.toBitVec >>> 16 := by
    show y.toBitVec >>> (((16 : UInt32).toBitVec) % 32) = _
    rfl
  rw [Int32.toBitVec_and, Int32.toBitVec_and, h1, h2]
  generalize y.toBitVec = v
  apply BitVec.eq_of_getLsbD_eq
  intro i hi
  rw [BitVec.getLsbD_and, BitVec.getLsbD_and, BitVec.getLsbD_ushiftRight, BitVec.getLsbD_sshiftRight]
  by_cases h : i < 15
  · simp [show 16 + i < 32 by omega, show ¬ 32 ≤ i by omega]
  · have : (Int32.ofInt 32767).toBitVec.getLsbD i = false := by
      show (BitVec.ofNat 32 32767).getLsbD i = false
      rw [BitVec.getLsbD_ofNat]
      rw [show (32767 : Nat) = 2 ^ 15 - 1 from rfl, Nat.testBit_two_pow_sub_one, decide_eq_false h, Bool.and_false]
    rw [this, Bool.and_false, Bool.and_false]
abbrev sNext (x : Int) : Int := jwr (1103515245 * x + 12345)
abbrev sDraw (x : Int) : Int := jAnd (jShr x 16) 32767 % 100
abbrev mPain (w : Int → Int) (p fl : Int) : Int := aPaD w p (w 3) + (if fl = 0 then 0 else 5)
def mPut (w : Int → Int) (p pain wet : Int) : Int := if w 8 = 1 then 0 else if w 2 = 1 then min pain (mSum w 1 p pain wet) else max 0 (pain - aOf w p 0)
def mDrw (w : Int → Int) (p pain wet : Int) : Int := if w 8 = 1 then 0 else min (aOf w p 1) (if w 2 = 1 then mSum w 0 p pain wet else max 0 (aOf w p 0 - pain))
abbrev mUnf (w : Int → Int) (p pain wet : Int) : Int := min (mDrw w p pain wet) (aOf w p 2)
abbrev mRes (w : Int → Int) (p pain wet : Int) : Int := aOf w p 1 - mDrw w p pain wet + mPut w p pain wet
abbrev wAF (w : Int → Int) (p a f : Int) : Int → Int := wup (wup w (12 + 13 * p + 2) f) (12 + 13 * p + 1) a
def mLive (w : Int → Int) (p pain wet : Int) : Int → Int := wAF w p (min 99999 (mRes w p pain wet)) (aOf w p 2 - mUnf w p pain wet)
def mFeltV (w : Int → Int) (p pain wet : Int) : Int := pain - mPut w p pain wet + (mDrw w p pain wet - mUnf w p pain wet) + max 0 (mRes w p pain wet - 99999)
/-- all that a row keeps to -/
def WF (w : Int → Int) : Prop := (0 ≤ aPe w ∧ aPe w ≤ 8) ∧ WfO w ∧ WfLw w ∧ (w 8 = 0 ∨ w 8 = 1) ∧ (0 ≤ w 6 ∧ w 6 ≤ 100) ∧ (0 ≤ w 7 ∧ w 7 ≤ 100)
theorem tRun_cong {f g : Int → Int} : ∀ {n : Nat} {i : Int} {T T' : List Bool}, (∀ k, i ≤ k → f k = g k) → tRun f i n T T' → tRun g i n T T'
  | 0, _, _, _, _, h => h
  | n + 1, i, T, T', he, ⟨T1, h1, h2⟩ => ⟨T1, by rw [← he i (Int.le_refl _)]; exact h1, tRun_cong (fun k hk => he k (by omega)) h2⟩
theorem eRun_cong {fa fb f g f' g' : Int → Int} : ∀ {n : Nat} {i : Int} {V : List Int}, (∀ k, i ≤ k → f k = f' k ∧ g k = g' k) → (∀ k, fa k = fb k) → eRun fa f g i n V = eRun fb f' g' i n V
  | 0, _, _, _, _ => rfl
  | n + 1, i, V, he, hf => by
    have h1 : fa = fb := funext hf
    show eRun fa f g (i + 1) n (eStep fa (f i) (g i) V) = eRun fb f' g' (i + 1) n (eStep fb (f' i) (g' i) V)
    rw [(he i (Int.le_refl _)).1, (he i (Int.le_refl _)).2, h1]
    exact eRun_cong (fun k hk => he k (by omega)) (fun _ => rfl)
theorem WfLn_cong {w v : Int → Int} {n : Int} (hn : 0 ≤ n) (h : ∀ k, 420 ≤ k → v k = w k) (hL : WfLn w n) : WfLn v n := by
  obtain ⟨a, b, c, ⟨T, e, f⟩, g⟩ := hL
  unfold WfLn
  rw [h _ (by omega), h _ (by omega), h _ (by omega), h _ (by omega)]
  refine ⟨a, b, c, ⟨T, tRun_cong (fun k hk => (h _ (by omega)).symm) e, f⟩, fun i h1 h2 h3 => ?_⟩
  have e1 : aStp v i = aStp w i := h _ (by omega)
  have e2 : aArg v i = aArg w i := h _ (by omega)
  rw [e2]
  exact g i h1 h2 (by rw [← e1]; exact h3)
theorem WfLw_cong {w v : Int → Int} (h2 : v 2 = w 2) (h : ∀ k, 420 ≤ k → v k = w k) (hL : WfLw w) : WfLw v := by
  unfold WfLw
  rw [h2, h 420 (by omega)]
  exact ⟨hL.1, fun q => ⟨(hL.2 q).1, fun n h0 h1 => WfLn_cong h0 h ((hL.2 q).2 n h0 h1)⟩⟩
theorem wAF_o {w : Int → Int} {p a f k : Int} (h1 : k ≠ 12 + 13 * p + 2) (h2 : k ≠ 12 + 13 * p + 1) : wAF w p a f k = w k := by
  unfold wAF
  rw [wup_ne _ _ h2, wup_ne _ _ h1]
theorem wAF_1 {w : Int → Int} {p a f : Int} : aOf (wAF w p a f) p 1 = a := wup_same _ _ _
theorem wAF_2 {w : Int → Int} {p a f : Int} : aOf (wAF w p a f) p 2 = f := by
  show wAF w p a f (12 + 13 * p + 2) = f
  unfold wAF
  rw [wup_ne _ _ (by omega), wup_same]
theorem wAF_p {w : Int → Int} {p a f q k : Int} (h : ¬ (q = p ∧ (k = 1 ∨ k = 2))) (hk : 0 ≤ k) (hk1 : k < 13) : aOf (wAF w p a f) q k = aOf w q k := wAF_o (by omega) (by omega)
/-- another account keeps all -/
theorem WF_AF {w : Int → Int} {p a f : Int} (h : WF w) (hp : 0 ≤ p ∧ p < aPe w) (ha : 0 ≤ a ∧ a ≤ 99999) (hf : 0 ≤ f ∧ f ≤ a) : WF (wAF w p a f) := by
  obtain ⟨h1, ⟨o1, o2, o3⟩, h3, h4, h5, h6⟩ := h
  have hlow : ∀ k, k < 12 → wAF w p a f k = w k := fun k hk => wAF_o (by omega) (by omega)
  have e0 : aPe (wAF w p a f) = aPe w := hlow 0 (by decide)
  refine ⟨by rw [e0]; exact h1, ⟨by rw [hlow 3 (by decide)]; exact o1, by rw [hlow 5 (by decide)]; exact o2, fun q hq0 hq1 => ?_⟩, WfLw_cong (hlow 2 (by decide)) (fun k hk => wAF_o (by omega) (by omega)) h3, by rw [hlow 8 (by decide)]; exact h4, by rw [hlow 6 (by decide)]; exact h5, by rw [hlow 7 (by decide)]; exact h6⟩
  rw [e0] at hq1
  obtain ⟨i0, i1, i2, i3, i4, i5, i6⟩ := o3 q hq0 hq1
  have i6' : ∀ k, 0 ≤ k → k < 7 → 0 ≤ aOf (wAF w p a f) q (6 + k) ∧ aOf (wAF w p a f) q (6 + k) ≤ 9 := fun k hk0 hk1 => by rw [wAF_p (by omega) (by omega) (by omega)]; exact i6 k hk0 hk1
  rw [wAF_p (k := 0) (by omega) (by omega) (by omega), wAF_p (k := 3) (by omega) (by omega) (by omega), wAF_p (k := 4) (by omega) (by omega) (by omega), wAF_p (k := 5) (by omega) (by omega) (by omega), e0]
  by_cases e : q = p
  · subst e
    rw [wAF_1, wAF_2]
    exact ⟨i0, ha, hf, i3, i4, i5, i6'⟩
  · rw [wAF_p (k := 1) (by omega) (by omega) (by omega), wAF_p (k := 2) (by omega) (by omega) (by omega)]
    exact ⟨i0, i1, i2, i3, i4, i5, i6'⟩
theorem WF_B {w : Int → Int} (h : WF w) : WfB w := fun p h0 h1 => by
  have := h.2.1.2.2 p h0 h1
  exact ⟨by omega, this.2.2.2.2.2.2⟩
theorem WF_A {w : Int → Int} (h : WF w) : WfA w := fun p h0 h1 => (h.2.1.2.2 p h0 h1).2.1
theorem WF_fact {w : Int → Int} (h : WF w) {p pain wet : Int} (hp : 0 ≤ p ∧ p < aPe w) (h1 : 0 ≤ pain ∧ pain ≤ 100) (h2 : wet = 0 ∨ wet = 1) : vFact w p pain wet := by
  have h8 := h.1
  have := h.2.1.2.2 p hp.1 hp.2
  exact ⟨by omega, h1, h2, this.2.1, by omega, h.2.1.1⟩
theorem mPain_in {w : Int → Int} (h : WF w) {p fl : Int} (hp : 0 ≤ p ∧ p < aPe w) : 0 ≤ mPain w p fl ∧ mPain w p fl ≤ 14 := by
  have := aPaD_in (WF_B h) hp (day := w 3) h.2.1.1.1
  unfold mPain
  split <;> omega
theorem mPut_in {w : Int → Int} (h : WF w) {p pain wet : Int} (hp : 0 ≤ p ∧ p < aPe w) (h1 : 0 ≤ pain ∧ pain ≤ 100) : 0 ≤ mPut w p pain wet ∧ mPut w p pain wet ≤ pain := by
  have h3 := h.2.2.1
  have h4 := h.2.1.2.2 p hp.1 hp.2
  unfold mPut
  by_cases e : w 8 = 1
  · rw [if_pos e]; omega
  · rw [if_neg e]
    by_cases e2 : w 2 = 1
    · rw [if_pos e2]
      have := mSum_in (kind := 1) (p := p) (pain := pain) (wet := wet) (h3.2 e2)
      omega
    · rw [if_neg e2]; omega
theorem mDrw_in {w : Int → Int} (h : WF w) {p pain wet : Int} (hp : 0 ≤ p ∧ p < aPe w) : 0 ≤ mDrw w p pain wet ∧ mDrw w p pain wet ≤ aOf w p 1 := by
  have h3 := h.2.2.1
  have h4 := h.2.1.2.2 p hp.1 hp.2
  unfold mDrw
  by_cases e : w 8 = 1
  · rw [if_pos e]; omega
  · rw [if_neg e]
    by_cases e2 : w 2 = 1
    · rw [if_pos e2]
      have := mSum_in (kind := 0) (p := p) (pain := pain) (wet := wet) (h3.2 e2)
      omega
    · rw [if_neg e2]; omega
theorem WF_live {w : Int → Int} (h : WF w) {p pain wet : Int} (hp : 0 ≤ p ∧ p < aPe w) (h1 : 0 ≤ pain ∧ pain ≤ 100) : WF (mLive w p pain wet) := by
  have h4 := h.2.1.2.2 p hp.1 hp.2
  have a := mPut_in h (wet := wet) hp h1
  have b := mDrw_in h (pain := pain) (wet := wet) hp
  exact WF_AF h hp (by unfold mRes; omega) (by unfold mUnf mRes; omega)
theorem mFeltV_in {w : Int → Int} (h : WF w) {p pain wet : Int} (hp : 0 ≤ p ∧ p < aPe w) (h1 : 0 ≤ pain ∧ pain ≤ 100) : 0 ≤ mFeltV w p pain wet ∧ mFeltV w p pain wet ≤ 200000 := by
  have h4 := h.2.1.2.2 p hp.1 hp.2
  have a := mPut_in h (wet := wet) hp h1
  have b := mDrw_in h (pain := pain) (wet := wet) hp
  unfold mFeltV mUnf mRes
  omega
/-! ### the rows that a day touches -/
abbrev FrD (I I' : Nat → Int → Int) : Prop := (∀ a, a ≠ 170 → a ≠ 171 → a ≠ 178 → a ≠ 179 → a ≠ 180 → a ≠ 181 → I' a = I a) ∧ ∀ k, k ≠ 18 → k ≠ 19 → I' 170 k = I 170 k
def DS (I J : Nat → Int → Int) (w a b f : Int → Int) : Prop := J 171 = w ∧ J 179 = a ∧ J 180 = b ∧ J 181 = f ∧ FrD I J
theorem DS_0 {I : Nat → Int → Int} : DS I I (I 171) (I 179) (I 180) (I 181) := ⟨rfl, rfl, rfl, rfl, fun _ _ _ _ _ _ _ => rfl, fun _ _ _ => rfl⟩
section
variable {I J J' : Nat → Int → Int} {w a b f w' a' b' f' : Int → Int} {k v : Int}
theorem DS_171 (h : DS I J w a b f) : DS I (jup J 171 k v) (wup w k v) a b f := by
  obtain ⟨h1, h2, h3, h4, h5, h6⟩ := h
  refine ⟨by rw [jup_at, h1], by rw [jup_ne _ _ _ (by decide), h2], by rw [jup_ne _ _ _ (by decide), h3], by rw [jup_ne _ _ _ (by decide), h4], fun x x0 x1 x2 x3 x4 x5 => by rw [jup_ne _ _ _ x1]; exact h5 x x0 x1 x2 x3 x4 x5, fun x x0 x1 => by rw [jup_ne _ _ _ (by decide)]; exact h6 x x0 x1⟩
theorem DS_179 (h : DS I J w a b f) : DS I (jup J 179 k v) w (wup a k v) b f := by
  obtain ⟨h1, h2, h3, h4, h5, h6⟩ := h
  refine ⟨by rw [jup_ne _ _ _ (by decide), h1], by rw [jup_at, h2], by rw [jup_ne _ _ _ (by decide), h3], by rw [jup_ne _ _ _ (by decide), h4], fun x x0 x1 x2 x3 x4 x5 => by rw [jup_ne _ _ _ x3]; exact h5 x x0 x1 x2 x3 x4 x5, fun x x0 x1 => by rw [jup_ne _ _ _ (by decide)]; exact h6 x x0 x1⟩
theorem DS_180 (h : DS I J w a b f) : DS I (jup J 180 k v) w a (wup b k v) f := by
  obtain ⟨h1, h2, h3, h4, h5, h6⟩ := h
  refine ⟨by rw [jup_ne _ _ _ (by decide), h1], by rw [jup_ne _ _ _ (by decide), h2], by rw [jup_at, h3], by rw [jup_ne _ _ _ (by decide), h4], fun x x0 x1 x2 x3 x4 x5 => by rw [jup_ne _ _ _ x4]; exact h5 x x0 x1 x2 x3 x4 x5, fun x x0 x1 => by rw [jup_ne _ _ _ (by decide)]; exact h6 x x0 x1⟩
theorem DS_181 (h : DS I J w a b f) : DS I (jup J 181 k v) w a b (wup f k v) := by
  obtain ⟨h1, h2, h3, h4, h5, h6⟩ := h
  refine ⟨by rw [jup_ne _ _ _ (by decide), h1], by rw [jup_ne _ _ _ (by decide), h2], by rw [jup_ne _ _ _ (by decide), h3], by rw [jup_at, h4], fun x x0 x1 x2 x3 x4 x5 => by rw [jup_ne _ _ _ x5]; exact h5 x x0 x1 x2 x3 x4 x5, fun x x0 x1 => by rw [jup_ne _ _ _ (by decide)]; exact h6 x x0 x1⟩
theorem DS_170 (h : DS I J w a b f) (hk : k = 18 ∨ k = 19) : DS I (jup J 170 k v) w a b f := by
  obtain ⟨h1, h2, h3, h4, h5, h6⟩ := h
  refine ⟨by rw [jup_ne _ _ _ (by decide), h1], by rw [jup_ne _ _ _ (by decide), h2], by rw [jup_ne _ _ _ (by decide), h3], by rw [jup_ne _ _ _ (by decide), h4], fun x x0 x1 x2 x3 x4 x5 => by rw [jup_ne _ _ _ x0]; exact h5 x x0 x1 x2 x3 x4 x5, fun x x0 x1 => by rw [jup_row _ _ _ (by omega)]; exact h6 x x0 x1⟩
theorem DS_fr (h : DS I J w a b f) (hf : Fr1 178 J J') : DS I J' w a b f := by
  obtain ⟨h1, h2, h3, h4, h5, h6⟩ := h
  refine ⟨by rw [hf _ (by decide), h1], by rw [hf _ (by decide), h2], by rw [hf _ (by decide), h3], by rw [hf _ (by decide), h4], fun x x0 x1 x2 x3 x4 x5 => by rw [hf _ x2]; exact h5 x x0 x1 x2 x3 x4 x5, fun x x0 x1 => by rw [hf _ (by decide)]; exact h6 x x0 x1⟩
theorem DS_tr (h : DS I J w a b f) (h' : DS J J' w' a' b' f') : DS I J' w' a' b' f' := by
  obtain ⟨h1, h2, h3, h4, h5, h6⟩ := h
  obtain ⟨g1, g2, g3, g4, g5, g6⟩ := h'
  exact ⟨g1, g2, g3, g4, fun x x0 x1 x2 x3 x4 x5 => (g5 x x0 x1 x2 x3 x4 x5).trans (h5 x x0 x1 x2 x3 x4 x5), fun x x0 x1 => (g6 x x0 x1).trans (h6 x x0 x1)⟩
end
section
variable {G : jzG} {d : Nat} {sh : List (Nat × Nat)} {I : Nat → Int → Int} {F : Nat → Int → Option Nat}
theorem sm_fl0 (hsh : ShOK sh) (hfx : FxOK F) (h : ¬ I 171 8 = 1) : jS G d mX12_hasFailed [jR (some 170)] (sh, I, F) 0 0 (rI 0 (sh, I, F)) := by
  have := sm_hasFailed (G := G) (d := d) (I := I) hsh hfx
  rw [if_neg h] at this
  exact this
theorem sm_fl1 (hsh : ShOK sh) (hfx : FxOK F) (h : I 171 8 = 1) : jS G d mX12_hasFailed [jR (some 170)] (sh, I, F) 0 0 (rI 1 (sh, I, F)) := by
  have := sm_hasFailed (G := G) (d := d) (I := I) hsh hfx
  rw [if_pos h] at this
  exact this
theorem sm_puts (hsh : ShOK sh) (hfx : FxOK F) {p : Int} (hW : WF (I 171)) (hp : 0 ≤ p ∧ p < aPe (I 171)) (h1 : 0 ≤ I 170 18 ∧ I 170 18 ≤ 100) (h2 : I 170 19 = 0 ∨ I 170 19 = 1) : jS G (d + 5) mX12_puts [jR (some 170), jI p] (sh, I, F) 0 0 (rEI (mPut (I 171) p (I 170 18) (I 170 19)) sh F (Fr1 178 I)) := by
  have hv := WF_fact hW hp h1 h2
  have h8 := hW.1
  have h4 := hW.2.1.2.2 p hp.1 hp.2
  have hLw := hW.2.2.1
  refine jS_go [some (jR (some 170)), some (jI p)] (by decide +kernel) rfl (by simp [jone]) (Nat.le_of_ble_eq_true rfl) rfl (fun hok => ?_)
  unfold mPut
  by_cases e : I 171 8 = 1
  · rw [if_pos e]
    refine j_aload_n dX12_puts_0 rfl ?_
    refine r_cv0I dX12_puts_1 cvX12_268 (by decide) (by first | assumption | exact hsh _ _ rfl) (Nat.le_of_ble_eq_true rfl) (Nat.le_of_eq (Nat.zero_add _)) (Nat.le_of_eq (Nat.zero_add _)) (sm_fl1 hsh hfx e) ?_
    refine j_if_eq (tgt := 9) dX12_puts_4 rfl (by first | omega | (split <;> omega)) (fun c_4 => by exact absurd c_4 (by decide)) (fun c_4 => ?_)
    refine j_iconst dX12_puts_7 ?_
    refine j_iret dX12_puts_8 rfl ?_
    exact rEI_of rfl (fun _ _ => rfl)
  · rw [if_neg e]
    by_cases e2 : I 171 2 = 1
    · rw [if_pos e2]
      have hs := mSum_in (kind := 1) (p := p) (pain := I 170 18) (wet := I 170 19) (hLw.2 e2)
      refine j_aload_n dX12_puts_0 rfl ?_
      refine r_cv0I dX12_puts_1 cvX12_268 (by decide) (by first | assumption | exact hsh _ _ rfl) (Nat.le_of_ble_eq_true rfl) (Nat.le_of_eq (Nat.zero_add _)) (Nat.le_of_eq (Nat.zero_add _)) (sm_fl0 hsh hfx e) ?_
      refine j_if_eq (tgt := 9) dX12_puts_4 rfl (by first | omega | (split <;> omega)) (fun c_4 => ?_) (fun c_4 => by exact absurd c_4 (by decide))
      refine j_aload_n dX12_puts_9 rfl ?_
      refine r_getS dX12_puts_10 flX12_13 (by first | assumption | exact hsh _ _ rfl) (fx_170_1 hfx) ?_
      refine j_iconst dX12_puts_13 ?_
      refine r_iaload dX12_puts_14 (by first | assumption | exact hsh _ _ rfl) (by first | omega | (split <;> omega)) (by first | omega | (split <;> omega)) (fun b_14 => ?_)
      refine j_iconst dX12_puts_15 ?_
      refine j_icmp_ne (tgt := 35) dX12_puts_16 rfl (by first | omega | (split <;> omega)) (by first | omega | (split <;> omega)) (fun c_16 => by exact absurd e2 c_16) (fun c_16 => ?_)
      refine j_aload_n dX12_puts_19 rfl ?_
      refine r_getI dX12_puts_20 flX12_256 (by first | assumption | exact hsh _ _ rfl) (fun b_20 => ?_)
      refine j_aload_n dX12_puts_23 rfl ?_
      refine j_iconst dX12_puts_24 ?_
      refine j_iload_n dX12_puts_25 rfl ?_
      refine r_cv2EI dX12_puts_26 cvX12_271 (by decide) (by first | assumption | exact hsh _ _ rfl) (Nat.le_of_ble_eq_true rfl) (Nat.le_of_eq (Nat.zero_add _)) (Nat.le_of_eq (Nat.zero_add _)) (sm_sumOf hsh hfx (Or.inr rfl) (hLw.2 e2) hv) (fun I2 hI2 => ?_)
      refine r_min dX12_puts_29 lmX12_275 (Nat.le_of_ble_eq_true rfl) (by first | omega | (split <;> omega)) (by first | omega | (split <;> omega)) ?_
      refine j_goto (tgt := 50) dX12_puts_32 rfl ?_
      refine j_iret dX12_puts_50 rfl ?_
      exact rEI_of rfl hI2
    · rw [if_neg e2]
      refine j_aload_n dX12_puts_0 rfl ?_
      refine r_cv0I dX12_puts_1 cvX12_268 (by decide) (by first | assumption | exact hsh _ _ rfl) (Nat.le_of_ble_eq_true rfl) (Nat.le_of_eq (Nat.zero_add _)) (Nat.le_of_eq (Nat.zero_add _)) (sm_fl0 hsh hfx e) ?_
      refine j_if_eq (tgt := 9) dX12_puts_4 rfl (by first | omega | (split <;> omega)) (fun c_4 => ?_) (fun c_4 => by exact absurd c_4 (by decide))
      refine j_aload_n dX12_puts_9 rfl ?_
      refine r_getS dX12_puts_10 flX12_13 (by first | assumption | exact hsh _ _ rfl) (fx_170_1 hfx) ?_
      refine j_iconst dX12_puts_13 ?_
      refine r_iaload dX12_puts_14 (by first | assumption | exact hsh _ _ rfl) (by first | omega | (split <;> omega)) (by first | omega | (split <;> omega)) (fun b_14 => ?_)
      refine j_iconst dX12_puts_15 ?_
      refine j_icmp_ne (tgt := 35) dX12_puts_16 rfl (by first | omega | (split <;> omega)) (by first | omega | (split <;> omega)) (fun c_16 => ?_) (fun c_16 => by exact absurd e2 c_16)
      refine j_iconst dX12_puts_35 ?_
      refine j_aload_n dX12_puts_36 rfl ?_
      refine r_getI dX12_puts_37 flX12_256 (by first | assumption | exact hsh _ _ rfl) (fun b_37 => ?_)
      refine j_aload_n dX12_puts_40 rfl ?_
      refine j_iload_n dX12_puts_41 rfl ?_
      refine j_iconst dX12_puts_42 ?_
      refine r_cv2J dX12_puts_43 cvX12_68 (by decide) (by first | assumption | exact hsh _ _ rfl) (Nat.le_of_ble_eq_true rfl) (Nat.le_of_eq (Nat.zero_add _)) (Nat.le_of_eq (Nat.zero_add _)) (sm_of hsh hfx (by omega)) (hok.2.1 171 _) (fun b_43 => ?_)
      refine j_isub dX12_puts_46 ?_
      refine r_max dX12_puts_47 lmX12_280 (Nat.le_of_ble_eq_true rfl) (by first | omega | (split <;> omega)) (by first | omega | (split <;> omega)) ?_
      refine j_iret dX12_puts_50 rfl ?_
      exact rEI_of rfl (fun _ _ => rfl)
theorem sm_draws (hsh : ShOK sh) (hfx : FxOK F) {p : Int} (hW : WF (I 171)) (hp : 0 ≤ p ∧ p < aPe (I 171)) (h1 : 0 ≤ I 170 18 ∧ I 170 18 ≤ 100) (h2 : I 170 19 = 0 ∨ I 170 19 = 1) : jS G (d + 5) mX12_draws [jR (some 170), jI p] (sh, I, F) 0 0 (rEI (mDrw (I 171) p (I 170 18) (I 170 19)) sh F (Fr1 178 I)) := by
  have hv := WF_fact hW hp h1 h2
  have h8 := hW.1
  have h4 := hW.2.1.2.2 p hp.1 hp.2
  have hLw := hW.2.2.1
  refine jS_go [some (jR (some 170)), some (jI p)] (by decide +kernel) rfl (by simp [jone]) (Nat.le_of_ble_eq_true rfl) rfl (fun hok => ?_)
  unfold mDrw
  by_cases e : I 171 8 = 1
  · rw [if_pos e]
    refine j_aload_n dX12_draws_0 rfl ?_
    refine r_cv0I dX12_draws_1 cvX12_268 (by decide) (by first | assumption | exact hsh _ _ rfl) (Nat.le_of_ble_eq_true rfl) (Nat.le_of_eq (Nat.zero_add _)) (Nat.le_of_eq (Nat.zero_add _)) (sm_fl1 hsh hfx e) ?_
    refine j_if_eq (tgt := 9) dX12_draws_4 rfl (by first | omega | (split <;> omega)) (fun c_4 => by exact absurd c_4 (by decide)) (fun c_4 => ?_)
    refine j_iconst dX12_draws_7 ?_
    refine j_iret dX12_draws_8 rfl ?_
    exact rEI_of rfl (fun _ _ => rfl)
  · rw [if_neg e]
    by_cases e2 : I 171 2 = 1
    · rw [if_pos e2]
      have hs := mSum_in (kind := 0) (p := p) (pain := I 170 18) (wet := I 170 19) (hLw.2 e2)
      refine j_aload_n dX12_draws_0 rfl ?_
      refine r_cv0I dX12_draws_1 cvX12_268 (by decide) (by first | assumption | exact hsh _ _ rfl) (Nat.le_of_ble_eq_true rfl) (Nat.le_of_eq (Nat.zero_add _)) (Nat.le_of_eq (Nat.zero_add _)) (sm_fl0 hsh hfx e) ?_
      refine j_if_eq (tgt := 9) dX12_draws_4 rfl (by first | omega | (split <;> omega)) (fun c_4 => ?_) (fun c_4 => by exact absurd c_4 (by decide))
      refine j_aload_n dX12_draws_9 rfl ?_
      refine j_iload_n dX12_draws_10 rfl ?_
      refine j_iconst dX12_draws_11 ?_
      refine r_cv2J dX12_draws_12 cvX12_68 (by decide) (by first | assumption | exact hsh _ _ rfl) (Nat.le_of_ble_eq_true rfl) (Nat.le_of_eq (Nat.zero_add _)) (Nat.le_of_eq (Nat.zero_add _)) (sm_of hsh hfx (by omega)) (hok.2.1 171 _) (fun b_12 => ?_)
      refine j_aload_n dX12_draws_15 rfl ?_
      refine r_getS dX12_draws_16 flX12_13 (by first | assumption | exact hsh _ _ rfl) (fx_170_1 hfx) ?_
      refine j_iconst dX12_draws_19 ?_
      refine r_iaload dX12_draws_20 (by first | assumption | exact hsh _ _ rfl) (by first | omega | (split <;> omega)) (by first | omega | (split <;> omega)) (fun b_20 => ?_)
      refine j_iconst dX12_draws_21 ?_
      refine j_icmp_ne (tgt := 34) dX12_draws_22 rfl (by first | omega | (split <;> omega)) (by first | omega | (split <;> omega)) (fun c_22 => by exact absurd e2 c_22) (fun c_22 => ?_)
      refine j_aload_n dX12_draws_25 rfl ?_
      refine j_iconst dX12_draws_26 ?_
      refine j_iload_n dX12_draws_27 rfl ?_
      refine r_cv2EI dX12_draws_28 cvX12_271 (by decide) (by first | assumption | exact hsh _ _ rfl) (Nat.le_of_ble_eq_true rfl) (Nat.le_of_eq (Nat.zero_add _)) (Nat.le_of_eq (Nat.zero_add _)) (sm_sumOf hsh hfx (Or.inl rfl) (hLw.2 e2) hv) (fun I2 hI2 => ?_)
      refine j_goto (tgt := 49) dX12_draws_31 rfl ?_
      refine r_min dX12_draws_49 lmX12_275 (Nat.le_of_ble_eq_true rfl) (by first | omega | (split <;> omega)) (by first | omega | (split <;> omega)) ?_
      refine j_iret dX12_draws_52 rfl ?_
      exact rEI_of rfl hI2
    · rw [if_neg e2]
      refine j_aload_n dX12_draws_0 rfl ?_
      refine r_cv0I dX12_draws_1 cvX12_268 (by decide) (by first | assumption | exact hsh _ _ rfl) (Nat.le_of_ble_eq_true rfl) (Nat.le_of_eq (Nat.zero_add _)) (Nat.le_of_eq (Nat.zero_add _)) (sm_fl0 hsh hfx e) ?_
      refine j_if_eq (tgt := 9) dX12_draws_4 rfl (by first | omega | (split <;> omega)) (fun c_4 => ?_) (fun c_4 => by exact absurd c_4 (by decide))
      refine j_aload_n dX12_draws_9 rfl ?_
      refine j_iload_n dX12_draws_10 rfl ?_
      refine j_iconst dX12_draws_11 ?_
      refine r_cv2J dX12_draws_12 cvX12_68 (by decide) (by first | assumption | exact hsh _ _ rfl) (Nat.le_of_ble_eq_true rfl) (Nat.le_of_eq (Nat.zero_add _)) (Nat.le_of_eq (Nat.zero_add _)) (sm_of hsh hfx (by omega)) (hok.2.1 171 _) (fun b_12 => ?_)
      refine j_aload_n dX12_draws_15 rfl ?_
      refine r_getS dX12_draws_16 flX12_13 (by first | assumption | exact hsh _ _ rfl) (fx_170_1 hfx) ?_
      refine j_iconst dX12_draws_19 ?_
      refine r_iaload dX12_draws_20 (by first | assumption | exact hsh _ _ rfl) (by first | omega | (split <;> omega)) (by first | omega | (split <;> omega)) (fun b_20 => ?_)
      refine j_iconst dX12_draws_21 ?_
      refine j_icmp_ne (tgt := 34) dX12_draws_22 rfl (by first | omega | (split <;> omega)) (by first | omega | (split <;> omega)) (fun c_22 => ?_) (fun c_22 => by exact absurd e2 c_22)
      refine j_iconst dX12_draws_34 ?_
      refine j_aload_n dX12_draws_35 rfl ?_
      refine j_iload_n dX12_draws_36 rfl ?_
      refine j_iconst dX12_draws_37 ?_
      refine r_cv2J dX12_draws_38 cvX12_68 (by decide) (by first | assumption | exact hsh _ _ rfl) (Nat.le_of_ble_eq_true rfl) (Nat.le_of_eq (Nat.zero_add _)) (Nat.le_of_eq (Nat.zero_add _)) (sm_of hsh hfx (by omega)) (hok.2.1 171 _) (fun b_38 => ?_)
      refine j_aload_n dX12_draws_41 rfl ?_
      refine r_getI dX12_draws_42 flX12_256 (by first | assumption | exact hsh _ _ rfl) (fun b_42 => ?_)
      refine j_isub dX12_draws_45 ?_
      refine r_max dX12_draws_46 lmX12_280 (Nat.le_of_ble_eq_true rfl) (by first | omega | (split <;> omega)) (by first | omega | (split <;> omega)) ?_
      refine r_min dX12_draws_49 lmX12_275 (Nat.le_of_ble_eq_true rfl) (by first | omega | (split <;> omega)) (by first | omega | (split <;> omega)) ?_
      refine j_iret dX12_draws_52 rfl ?_
      exact rEI_of rfl (fun _ _ => rfl)
theorem sm_takes (hsh : ShOK sh) (hfx : FxOK F) {p n : Int} (hp : 0 ≤ p ∧ p < 8) (h1 : 0 ≤ aOf (I 171) p 1 ∧ aOf (I 171) p 1 ≤ 99999) (h2 : 0 ≤ aOf (I 171) p 2 ∧ aOf (I 171) p 2 ≤ aOf (I 171) p 1) (h3 : 0 ≤ n ∧ n ≤ aOf (I 171) p 1) : jS G (d + 2) mX12_takes [jR (some 170), jI p, jI n] (sh, I, F) 0 0 (rI (n - min n (aOf (I 171) p 2)) (sh, jup (jup I 171 (12 + 13 * p + 2) (aOf (I 171) p 2 - min n (aOf (I 171) p 2))) 171 (12 + 13 * p + 1) (aOf (I 171) p 1 - n), F)) := by
  refine jS_go [some (jR (some 170)), some (jI p), some (jI n), none] (by decide +kernel) rfl (by simp [jone]) (Nat.le_of_ble_eq_true rfl) rfl (fun hok => ?_)
  refine j_iload_n dX12_takes_0 rfl ?_
  refine j_aload_n dX12_takes_1 rfl ?_
  refine j_iload_n dX12_takes_2 rfl ?_
  refine j_iconst dX12_takes_3 ?_
  refine r_cv2J dX12_takes_4 cvX12_68 (by decide) (by first | assumption | exact hsh _ _ rfl) (Nat.le_of_ble_eq_true rfl) (Nat.le_of_eq (Nat.zero_add _)) (Nat.le_of_eq (Nat.zero_add _)) (sm_of hsh hfx (by omega)) (hok.2.1 171 _) (fun b_4 => ?_)
  refine r_min dX12_takes_7 lmX12_275 (Nat.le_of_ble_eq_true rfl) (by first | omega | (split <;> omega)) (by first | omega | (split <;> omega)) ?_
  refine j_istore_n dX12_takes_10 (by decide) ?_
  refine j_aload_n dX12_takes_11 rfl ?_
  refine r_getS dX12_takes_12 flX12_13 (by first | assumption | exact hsh _ _ rfl) (fx_170_1 hfx) ?_
  refine j_iload_n dX12_takes_15 rfl ?_
  refine j_iconst dX12_takes_16 ?_
  refine r_cs2I dX12_takes_17 csX12_64 (Nat.le_of_ble_eq_true rfl) (Nat.le_of_eq (Nat.zero_add _)) (Nat.le_of_eq (Nat.zero_add _)) (sm_at) ?_
  refine j_dup2 dX12_takes_20 trivial trivial ?_
  refine r_ialoadE dX12_takes_21 (by first | assumption | exact hsh _ _ rfl) (by first | omega | (split <;> omega)) (by first | omega | (split <;> omega)) (show _ = aOf (I 171) p 2 from rfl) (fun b_21 => ?_)
  refine j_iload_n dX12_takes_22 rfl ?_
  refine j_isub dX12_takes_23 ?_
  refine r_iastore dX12_takes_24 (by first | assumption | exact hsh _ _ rfl) (by first | omega | (split <;> omega)) (by first | omega | (split <;> omega)) (by first | omega | (split <;> omega)) ?_
  refine j_aload_n dX12_takes_25 rfl ?_
  refine r_getS dX12_takes_26 flX12_13 (by first | assumption | exact hsh _ _ rfl) (fx_170_1 hfx) ?_
  refine j_iload_n dX12_takes_29 rfl ?_
  refine j_iconst dX12_takes_30 ?_
  refine r_cs2I dX12_takes_31 csX12_64 (Nat.le_of_ble_eq_true rfl) (Nat.le_of_eq (Nat.zero_add _)) (Nat.le_of_eq (Nat.zero_add _)) (sm_at) ?_
  refine j_dup2 dX12_takes_34 trivial trivial ?_
  refine r_ialoadE dX12_takes_35 (by first | assumption | exact hsh _ _ rfl) (by first | omega | (split <;> omega)) (by first | omega | (split <;> omega)) (show _ = aOf (I 171) p 1 by rw [jup_row _ _ _ (by omega)]) (fun b_35 => ?_)
  refine j_iload_n dX12_takes_36 rfl ?_
  refine j_isub dX12_takes_37 ?_
  refine r_iastore dX12_takes_38 (by first | assumption | exact hsh _ _ rfl) (by first | omega | (split <;> omega)) (by first | omega | (split <;> omega)) (by first | omega | (split <;> omega)) ?_
  refine j_iload_n dX12_takes_39 rfl ?_
  refine j_iload_n dX12_takes_40 rfl ?_
  refine j_isub dX12_takes_41 ?_
  refine j_iret dX12_takes_42 rfl ?_
  exact rI_of rfl rfl
theorem sm_lives (hsh : ShOK sh) (hfx : FxOK F) {p wet fl : Int} (hW : WF (I 171)) (hp : 0 ≤ p ∧ p < aPe (I 171)) (h2 : wet = 0 ∨ wet = 1) (h3 : fl = 0 ∨ fl = 1) : jS G (d + 6) mX12_lives [jR (some 170), jI p, jI wet, jI fl] (sh, I, F) 0 0 (rEV sh F (fun J => DS I J (mLive (I 171) p (mPain (I 171) p fl) wet) (wup (I 179) p (mPut (I 171) p (mPain (I 171) p fl) wet)) (wup (I 180) p (mDrw (I 171) p (mPain (I 171) p fl) wet)) (wup (I 181) p (mFeltV (I 171) p (mPain (I 171) p fl) wet)))) := by
  have h8 := hW.1
  have h4 := hW.2.1.2.2 p hp.1 hp.2
  have hpn := mPain_in hW (fl := fl) hp
  have hpu := mPut_in hW (wet := wet) hp (pain := mPain (I 171) p fl) (by omega)
  have hdr := mDrw_in hW (pain := mPain (I 171) p fl) (wet := wet) hp
  have hfe := mFeltV_in hW (wet := wet) hp (pain := mPain (I 171) p fl) (by omega)
  have hD0 := DS_0 (I := I)
  generalize hpain : mPain (I 171) p fl = pain at *
  have hday := hW.2.1.1
  refine jS_go [some (jR (some 170)), some (jI p), some (jI wet), some (jI fl), none] (by decide +kernel) rfl (by simp [jone]) (Nat.le_of_ble_eq_true rfl) rfl (fun hok => ?_)
  generalize hw9 : I 171 = w at *
  generalize I 179 = pu0 at *
  generalize I 180 = dr0 at *
  generalize I 181 = fe0 at *
  have hp9 : aPaD w p (w 3) + (if fl = 0 then 0 else 5) = pain := hpain
  have key : jW G mX12_lives (d + 6) (rEV sh F (fun J => DS I J (mLive w p pain wet) (wup pu0 p (mPut w p pain wet)) (wup dr0 p (mDrw w p pain wet)) (wup fe0 p (mFeltV w p pain wet)))) 22 [some (jR (some 170)), some (jI p), some (jI wet), some (jI fl), none] [jI pain, jR (some 170)] (sh, I, F) 0 0 := by
    generalize hpu9 : mPut w p pain wet = pu at *
    generalize hdr9 : mDrw w p pain wet = dr at *
    have hfe9 : mFeltV w p pain wet = pain - pu + (dr - min dr (aOf w p 2)) + max 0 (aOf w p 1 - dr + pu - 99999) := by unfold mFeltV mUnf mRes; rw [hpu9, hdr9]
    have hlv9 : mLive w p pain wet = wup (wup (wup w (12 + 13 * p + 2) (aOf w p 2 - min dr (aOf w p 2))) (12 + 13 * p + 1) (aOf w p 1 - dr)) (12 + 13 * p + 1) (min 99999 (aOf w p 1 - dr + pu)) := by
      rw [wup_wup]
      unfold mLive mUnf mRes
      rw [hpu9, hdr9]
    refine r_putI dX12_lives_22 flX12_256 rfl (by first | assumption | exact hsh _ _ rfl) (by first | omega | (split <;> omega)) (fun q => by cases q) ?_
    have hD1 := DS_170 (v := pain) hD0 (Or.inl rfl)
    refine j_aload_n dX12_lives_25 rfl ?_
    refine j_iload_n dX12_lives_26 rfl ?_
    refine r_putI dX12_lives_27 flX12_259 rfl (by first | assumption | exact hsh _ _ rfl) (by first | omega | (split <;> omega)) (fun _ => by omega) ?_
    have hD2 := DS_170 (v := wet) hD1 (Or.inr rfl)
    have e18 : (jup (jup I 170 18 pain) 170 19 wet) 170 18 = pain := by rw [jup_row _ _ _ (by decide), jup_same]
    have e19 : (jup (jup I 170 18 pain) 170 19 wet) 170 19 = wet := jup_same _ _ _ _
    generalize jup (jup I 170 18 pain) 170 19 wet = J2 at *
    have sp37 := sm_puts (G := G) (d := d) (I := J2) hsh hfx (p := p) (by rw [hD2.1]; exact hW) (by rw [hD2.1]; exact hp) (by omega) (by omega)
    rw [hD2.1, e18, e19, hpu9] at sp37
    refine j_aload_n dX12_lives_30 rfl ?_
    refine r_getS dX12_lives_31 flX12_42 (by first | assumption | exact hsh _ _ rfl) (fx_170_20 hfx) ?_
    refine j_iload_n dX12_lives_34 rfl ?_
    refine j_aload_n dX12_lives_35 rfl ?_
    refine j_iload_n dX12_lives_36 rfl ?_
    refine r_cv1EI dX12_lives_37 cvX12_286 (by decide) (by first | assumption | exact hsh _ _ rfl) (Nat.le_of_ble_eq_true rfl) (Nat.le_of_eq (Nat.zero_add _)) (Nat.le_of_eq (Nat.zero_add _)) (sp37) (fun J3 hJ3 => ?_)
    have hD3 := DS_fr hD2 hJ3
    rw [← hJ3 170 (by decide)] at e18 e19
    refine r_iastore dX12_lives_40 (by first | assumption | exact hsh _ _ rfl) (by first | omega | (split <;> omega)) (by first | omega | (split <;> omega)) (by first | omega | (split <;> omega)) ?_
    have hD4 := DS_179 (k := p) (v := pu) hD3
    rw [← jup_ne J3 (i := 179) (a := 170) p pu (by decide)] at e18 e19
    have e179 : (jup J3 179 p pu) 179 p = pu := jup_same _ _ _ _
    generalize jup J3 179 p pu = J4 at *
    have sp48 := sm_draws (G := G) (d := d) (I := J4) hsh hfx (p := p) (by rw [hD4.1]; exact hW) (by rw [hD4.1]; exact hp) (by omega) (by omega)
    rw [hD4.1, e18, e19, hdr9] at sp48
    refine j_aload_n dX12_lives_41 rfl ?_
    refine r_getS dX12_lives_42 flX12_45 (by first | assumption | exact hsh _ _ rfl) (fx_170_21 hfx) ?_
    refine j_iload_n dX12_lives_45 rfl ?_
    refine j_aload_n dX12_lives_46 rfl ?_
    refine j_iload_n dX12_lives_47 rfl ?_
    refine r_cv1EI dX12_lives_48 cvX12_290 (by decide) (by first | assumption | exact hsh _ _ rfl) (Nat.le_of_ble_eq_true rfl) (Nat.le_of_eq (Nat.zero_add _)) (Nat.le_of_eq (Nat.zero_add _)) (sp48) (fun J5 hJ5 => ?_)
    have hD5 := DS_fr hD4 hJ5
    rw [← hJ5 170 (by decide)] at e18 e19
    rw [← hJ5 179 (by decide)] at e179
    refine r_iastore dX12_lives_51 (by first | assumption | exact hsh _ _ rfl) (by first | omega | (split <;> omega)) (by first | omega | (split <;> omega)) (by first | omega | (split <;> omega)) ?_
    have hD6 := DS_180 (k := p) (v := dr) hD5
    rw [← jup_ne J5 (i := 180) (a := 170) p dr (by decide)] at e18 e19
    rw [← jup_ne J5 (i := 180) (a := 179) p dr (by decide)] at e179
    have e180 : (jup J5 180 p dr) 180 p = dr := jup_same _ _ _ _
    generalize jup J5 180 p dr = J6 at *
    have sp76 := sm_takes (G := G) (d := d + 3) (I := J6) hsh hfx (p := p) (n := dr) (by omega) (by rw [hD6.1]; exact h4.2.1) (by rw [hD6.1]; exact h4.2.2.1) (by rw [hD6.1]; exact hdr)
    rw [hD6.1] at sp76
    refine j_aload_n dX12_lives_52 rfl ?_
    refine r_getS dX12_lives_53 flX12_48 (by first | assumption | exact hsh _ _ rfl) (fx_170_22 hfx) ?_
    refine j_iload_n dX12_lives_56 rfl ?_
    refine j_aload_n dX12_lives_57 rfl ?_
    refine r_getIE dX12_lives_58 flX12_256 (by first | assumption | exact hsh _ _ rfl) e18 (fun b_58 => ?_)
    refine j_aload_n dX12_lives_61 rfl ?_
    refine r_getS dX12_lives_62 flX12_42 (by first | assumption | exact hsh _ _ rfl) (fx_170_20 hfx) ?_
    refine j_iload_n dX12_lives_65 rfl ?_
    refine r_ialoadE dX12_lives_66 (by first | assumption | exact hsh _ _ rfl) (by first | omega | (split <;> omega)) (by first | omega | (split <;> omega)) e179 (fun b_66 => ?_)
    refine j_isub dX12_lives_67 ?_
    refine j_aload_n dX12_lives_68 rfl ?_
    refine j_iload_n dX12_lives_69 rfl ?_
    refine j_aload_n dX12_lives_70 rfl ?_
    refine r_getS dX12_lives_71 flX12_45 (by first | assumption | exact hsh _ _ rfl) (fx_170_21 hfx) ?_
    refine j_iload_n dX12_lives_74 rfl ?_
    refine r_ialoadE dX12_lives_75 (by first | assumption | exact hsh _ _ rfl) (by first | omega | (split <;> omega)) (by first | omega | (split <;> omega)) e180 (fun b_75 => ?_)
    refine r_cv2I dX12_lives_76 cvX12_293 (by decide) (by first | assumption | exact hsh _ _ rfl) (Nat.le_of_ble_eq_true rfl) (Nat.le_of_eq (Nat.zero_add _)) (Nat.le_of_eq (Nat.zero_add _)) (sp76) ?_
    have hD8 := DS_171 (k := 12 + 13 * p + 1) (v := aOf w p 1 - dr) (DS_171 (k := 12 + 13 * p + 2) (v := aOf w p 2 - min dr (aOf w p 2)) hD6)
    have e179b : (jup (jup J6 171 (12 + 13 * p + 2) (aOf w p 2 - min dr (aOf w p 2))) 171 (12 + 13 * p + 1) (aOf w p 1 - dr)) 179 p = pu := by rw [jup_ne _ _ _ (by decide), jup_ne _ _ _ (by decide)]; exact e179
    generalize jup (jup J6 171 (12 + 13 * p + 2) (aOf w p 2 - min dr (aOf w p 2))) 171 (12 + 13 * p + 1) (aOf w p 1 - dr) = J8 at *
    refine j_iadd dX12_lives_79 ?_
    refine r_iastore dX12_lives_80 (by first | assumption | exact hsh _ _ rfl) (by first | omega | (split <;> omega)) (by first | omega | (split <;> omega)) (by first | omega | (split <;> omega)) ?_
    have hD9 := DS_181 (k := p) (v := pain - pu + (dr - min dr (aOf w p 2))) hD8
    have e181 : (jup J8 181 p (pain - pu + (dr - min dr (aOf w p 2)))) 181 p = pain - pu + (dr - min dr (aOf w p 2)) := jup_same _ _ _ _
    rw [← jup_ne J8 (i := 181) (a := 179) p (pain - pu + (dr - min dr (aOf w p 2))) (by decide)] at e179b
    generalize jup J8 181 p (pain - pu + (dr - min dr (aOf w p 2))) = J9 at *
    have sp84 := sm_of (G := G) (d := d + 4) (I := J9) (F := F) hsh hfx (p := p) (k := 1) (by omega)
    rw [hD9.1, show aOf (wup (wup w (12 + 13 * p + 2) (aOf w p 2 - min dr (aOf w p 2))) (12 + 13 * p + 1) (aOf w p 1 - dr)) p 1 = aOf w p 1 - dr from wup_same _ _ _] at sp84
    refine j_aload_n dX12_lives_81 rfl ?_
    refine j_iload_n dX12_lives_82 rfl ?_
    refine j_iconst dX12_lives_83 ?_
    refine r_cv2I dX12_lives_84 cvX12_68 (by decide) (by first | assumption | exact hsh _ _ rfl) (Nat.le_of_ble_eq_true rfl) (Nat.le_of_eq (Nat.zero_add _)) (Nat.le_of_eq (Nat.zero_add _)) (sp84) ?_
    refine j_aload_n dX12_lives_87 rfl ?_
    refine r_getS dX12_lives_88 flX12_42 (by first | assumption | exact hsh _ _ rfl) (fx_170_20 hfx) ?_
    refine j_iload_n dX12_lives_91 rfl ?_
    refine r_ialoadE dX12_lives_92 (by first | assumption | exact hsh _ _ rfl) (by first | omega | (split <;> omega)) (by first | omega | (split <;> omega)) e179b (fun b_92 => ?_)
    refine j_iadd dX12_lives_93 ?_
    refine j_istore dX12_lives_94 (by decide) ?_
    refine j_aload_n dX12_lives_96 rfl ?_
    refine r_getS dX12_lives_97 flX12_48 (by first | assumption | exact hsh _ _ rfl) (fx_170_22 hfx) ?_
    refine j_iload_n dX12_lives_100 rfl ?_
    refine j_dup2 dX12_lives_101 trivial trivial ?_
    refine r_ialoadE dX12_lives_102 (by first | assumption | exact hsh _ _ rfl) (by first | omega | (split <;> omega)) (by first | omega | (split <;> omega)) e181 (fun b_102 => ?_)
    refine j_iconst dX12_lives_103 ?_
    refine j_iload dX12_lives_104 rfl ?_
    refine j_ldc (n := 99999) dX12_lives_106 kcX12_140 ?_
    refine j_isub dX12_lives_108 ?_
    refine r_max dX12_lives_109 lmX12_280 (Nat.le_of_ble_eq_true rfl) (by first | omega | (split <;> omega)) (by first | omega | (split <;> omega)) ?_
    refine j_iadd dX12_lives_112 ?_
    refine r_iastore dX12_lives_113 (by first | assumption | exact hsh _ _ rfl) (by first | omega | (split <;> omega)) (by first | omega | (split <;> omega)) (by first | omega | (split <;> omega)) ?_
    have hD10 := DS_181 (k := p) (v := pain - pu + (dr - min dr (aOf w p 2)) + max 0 (aOf w p 1 - dr + pu - 99999)) hD9
    rw [wup_wup, ← hfe9] at hD10
    rw [← hfe9]
    refine j_aload_n dX12_lives_114 rfl ?_
    refine r_getS dX12_lives_115 flX12_13 (by first | assumption | exact hsh _ _ rfl) (fx_170_1 hfx) ?_
    refine j_iload_n dX12_lives_118 rfl ?_
    refine j_iconst dX12_lives_119 ?_
    refine r_cs2I dX12_lives_120 csX12_64 (Nat.le_of_ble_eq_true rfl) (Nat.le_of_eq (Nat.zero_add _)) (Nat.le_of_eq (Nat.zero_add _)) (sm_at) ?_
    refine j_ldc (n := 99999) dX12_lives_123 kcX12_140 ?_
    refine j_iload dX12_lives_125 rfl ?_
    refine r_min dX12_lives_127 lmX12_275 (Nat.le_of_ble_eq_true rfl) (by first | omega | (split <;> omega)) (by first | omega | (split <;> omega)) ?_
    refine r_iastore dX12_lives_130 (by first | assumption | exact hsh _ _ rfl) (by first | omega | (split <;> omega)) (by first | omega | (split <;> omega)) (by first | omega | (split <;> omega)) ?_
    refine j_vret dX12_lives_131 rfl ?_
    have hD11 := DS_171 (k := 12 + 13 * p + 1) (v := min 99999 (aOf w p 1 - dr + pu)) hD10
    rw [← hlv9] at hD11
    exact rEV_of hD11
  refine j_aload_n dX12_lives_0 rfl ?_
  refine j_aload_n dX12_lives_1 rfl ?_
  refine j_iload_n dX12_lives_2 rfl ?_
  refine j_aload_n dX12_lives_3 rfl ?_
  refine r_getS dX12_lives_4 flX12_13 (by first | assumption | exact hsh _ _ rfl) (fx_170_1 hfx) ?_
  refine j_iconst dX12_lives_7 ?_
  refine r_ialoadE dX12_lives_8 (by first | assumption | exact hsh _ _ rfl) (by first | omega | (split <;> omega)) (by first | omega | (split <;> omega)) (by rw [hw9]) (fun b_8 => ?_)
  refine r_cv2I dX12_lives_9 cvX12_283 (by decide) (by first | assumption | exact hsh _ _ rfl) (Nat.le_of_ble_eq_true rfl) (Nat.le_of_eq (Nat.zero_add _)) (Nat.le_of_eq (Nat.zero_add _)) (sm_painOn hsh hfx (by omega) (by rw [hw9] at *; omega)) ?_
  rw [hw9]
  refine j_iload_n dX12_lives_12 rfl ?_
  refine j_if_eq (tgt := 20) dX12_lives_13 rfl (by first | omega | (split <;> omega)) (fun c_13 => ?_) (fun c_13 => ?_)
  · rw [if_pos c_13] at hp9
    refine j_iconst dX12_lives_20 ?_
    refine j_iadd dX12_lives_21 ?_
    rw [hp9]
    exact key
  · rw [if_neg c_13] at hp9
    refine j_iconst dX12_lives_16 ?_
    refine j_goto (tgt := 21) dX12_lives_17 rfl ?_
    refine j_iadd dX12_lives_21 ?_
    rw [hp9]
    exact key
end
