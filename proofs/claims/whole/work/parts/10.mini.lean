/-! A SMALL MACHINE OVER THE KIT'S ROWS. An int z stands for Int32.ofInt z; references are places in a list of cells; rows of a cell are counted by Int. -/
abbrev jzV : Type := Int ⊕ (Int ⊕ (Option Nat ⊕ Nat))
abbrev jI (z : Int) : jzV := .inl z
abbrev jJ (z : Int) : jzV := .inr (.inl z)
abbrev jR (r : Option Nat) : jzV := .inr (.inr (.inl r))
abbrev jX (k : Nat) : jzV := .inr (.inr (.inr k))
/-- the cells' kinds and lengths; their ints; their references -/
abbrev jzH : Type := List (Nat × Nat) × (Nat → Int → Int) × (Nat → Int → Option Nat)
/-- class numbers and slots; array classes; addresses outside; the script's length and ints -/
abbrev jzG : Type := va_G × (Nat → ClassId) × (Nat → Nat) × Nat × (Nat → Int32)
/-- an end: an answer, or what is thrown -/
abbrev jzO : Type := Option jzV ⊕ String
/-- a method: name, bytes, locals, what it returns, its table -/
abbrev jzM : Type := MethodName × ByteArray × Nat × Option FieldType × List (Nat × Nat × Nat × Nat)
abbrev jin (z : Int) : Prop := -2147483648 ≤ z ∧ z < 2147483648
def jup {α : Type} (f : Nat → Int → α) (i : Nat) (k : Int) (v : α) : Nat → Int → α := fun a b => if a = i ∧ b = k then v else f a b
theorem jup_same {α : Type} (f : Nat → Int → α) (i : Nat) (k : Int) (v : α) : jup f i k v i k = v := by simp [jup]
theorem jup_cell {α : Type} (f : Nat → Int → α) {i a : Nat} (k b : Int) (v : α) (h : a ≠ i) : jup f i k v a b = f a b := by simp [jup, h]
theorem jup_row {α : Type} (f : Nat → Int → α) (i : Nat) {a : Nat} {k b : Int} (v : α) (h : b ≠ k) : jup f i k v a b = f a b := by simp [jup, h]
def jzTx : List String := ["person", "bears", "pain", "heir", "hears", "owes", "account", "forged", "dead", "vault", "rate", "rain", "fall", "the text is wrong", "there are 12 texts", "draw", "put", "if", "not", "wet", "sunday", "who", "day", "and", "or", "no such person", "no such what", "no such weekday", "both are one", "one is dead", "the number is none", "the bank failed", "so much cannot be owed"]
def jzBy : List (List Nat) := [[112, 101, 114, 115, 111, 110], [98, 101, 97, 114, 115], [112, 97, 105, 110], [104, 101, 105, 114], [104, 101, 97, 114, 115], [111, 119, 101, 115], [97, 99, 99, 111, 117, 110, 116], [102, 111, 114, 103, 101, 100], [100, 101, 97, 100], [118, 97, 117, 108, 116], [114, 97, 116, 101], [114, 97, 105, 110], [102, 97, 108, 108], [116, 104, 101, 32, 116, 101, 120, 116, 32, 105, 115, 32, 119, 114, 111, 110, 103], [116, 104, 101, 114, 101, 32, 97, 114, 101, 32, 49, 50, 32, 116, 101, 120, 116, 115], [100, 114, 97, 119], [112, 117, 116], [105, 102], [110, 111, 116], [119, 101, 116], [115, 117, 110, 100, 97, 121], [119, 104, 111], [100, 97, 121], [97, 110, 100], [111, 114], [110, 111, 32, 115, 117, 99, 104, 32, 112, 101, 114, 115, 111, 110], [110, 111, 32, 115, 117, 99, 104, 32, 119, 104, 97, 116], [110, 111, 32, 115, 117, 99, 104, 32, 119, 101, 101, 107, 100, 97, 121], [98, 111, 116, 104, 32, 97, 114, 101, 32, 111, 110, 101], [111, 110, 101, 32, 105, 115, 32, 100, 101, 97, 100], [116, 104, 101, 32, 110, 117, 109, 98, 101, 114, 32, 105, 115, 32, 110, 111, 110, 101], [116, 104, 101, 32, 98, 97, 110, 107, 32, 102, 97, 105, 108, 101, 100], [115, 111, 32, 109, 117, 99, 104, 32, 99, 97, 110, 110, 111, 116, 32, 98, 101, 32, 111, 119, 101, 100]]
def jzSt : List (String × Nat × Nat) := [("PainBank$BankReader", 25, 0), ("PainBank$BankReader", 64, 1), ("PainBank$BankReader", 76, 2), ("PainBank$BankReader", 34, 3), ("PainBank$BankReader", 36, 4), ("PainBank$BankReader", 38, 5), ("PainBank$BankReader", 43, 6), ("PainBank$BankReader", 45, 7), ("PainBank$BankReader", 47, 8), ("PainBank$BankReader", 106, 9), ("PainBank$BankReader", 108, 10), ("PainBank$BankReader", 110, 11), ("PainBank$BankReader", 112, 12), ("PainBank", 91, 13), ("PainBank", 101, 14), ("PainBank$LawReader", 56, 15), ("PainBank$LawReader", 62, 16), ("PainBank$LawReader", 74, 17), ("PainBank$LawReader", 93, 18), ("PainBank$LawReader", 101, 19), ("PainBank$LawReader", 103, 20), ("PainBank$LawReader", 109, 21), ("PainBank$LawReader", 111, 2), ("PainBank$LawReader", 113, 6), ("PainBank$LawReader", 115, 1), ("PainBank$LawReader", 117, 22), ("PainBank$LawReader", 89, 23), ("PainBank$LawReader", 91, 24), ("PainBank", 367, 25), ("PainBank", 159, 26), ("PainBank", 370, 27), ("PainBank", 372, 28), ("PainBank", 376, 29), ("PainBank", 374, 30), ("PainBank", 378, 31), ("PainBank", 212, 32), ("PainBankModel", 141, 0), ("PainBankModel", 125, 1), ("PainBankModel", 131, 2), ("PainBankModel", 147, 6), ("PainBankModel", 152, 3), ("PainBankModel", 157, 4), ("PainBankModel", 159, 5), ("PainBankModel", 161, 7), ("PainBankModel", 166, 8), ("PainBankModel", 171, 9), ("PainBankModel", 176, 10), ("PainBankModel", 178, 11), ("PainBankModel", 180, 12), ("PainBankModel", 230, 16), ("PainBankModel", 232, 15), ("PainBankModel", 234, 17), ("PainBankModel", 209, 18), ("PainBankModel", 199, 19), ("PainBankModel", 201, 20), ("PainBankModel", 189, 21), ("PainBankModel", 191, 22), ("PainBankModel", 223, 23), ("PainBankModel", 228, 24)]

def jzv (G : jzG) (ad : Nat → Nat) : jzV → Value
  | .inl z => .int (Int32.ofInt z)
  | .inr (.inl z) => .long (Int64.ofInt z)
  | .inr (.inr (.inl none)) => .null
  | .inr (.inr (.inl (some i))) => .ref (ad i)
  | .inr (.inr (.inr k)) => .ref (G.2.2.1 k)
def jok (n : Nat) : jzV → Prop
  | .inr (.inr (.inl (some i))) => i < n
  | _ => True
def jone : jzV → Prop
  | .inr (.inl _) => False
  | _ => True
theorem jok_mono {n n' : Nat} (h : n ≤ n') : ∀ {v : jzV}, jok n v → jok n' v
  | .inr (.inr (.inl (some _))), q => Nat.lt_of_lt_of_le q h
  | .inl _, _ => trivial
  | .inr (.inl _), _ => trivial
  | .inr (.inr (.inl none)), _ => trivial
  | .inr (.inr (.inr _)), _ => trivial
theorem jzv_ad {G : jzG} {ad ad' : Nat → Nat} {n : Nat} (h : ∀ i, i < n → ad' i = ad i) : ∀ {v : jzV}, jok n v → jzv G ad' v = jzv G ad v
  | .inr (.inr (.inl (some i))), q => congrArg Value.ref (h i q)
  | .inl _, _ => rfl
  | .inr (.inl _), _ => rfl
  | .inr (.inr (.inl none)), _ => rfl
  | .inr (.inr (.inr _)), _ => rfl
theorem jzv_cat {G : jzG} {ad : Nat → Nat} : ∀ {v : jzV}, jone v → (jzv G ad v).category = 1
  | .inl _, _ => rfl
  | .inr (.inl _), q => q.elim
  | .inr (.inr (.inl none)), _ => rfl
  | .inr (.inr (.inl (some _))), _ => rfl
  | .inr (.inr (.inr _)), _ => rfl
def jzT (kd : Nat) : Nat → FieldType := match kd with
  | 0 => tyX2
  | 1 => tyX4
  | 2 => tyX5
  | 3 => tyX6
  | 4 => tyX7
  | 5 => tyX8
  | 6 => tyX9
  | 7 => tyX10
  | 8 => tyX11
  | _ => tyX12
def jzN (kd : Nat) : Nat := match kd with
  | 0 => 10
  | 1 => 3
  | 2 => 5
  | 3 => 6
  | 4 => 3
  | 5 => 3
  | 6 => 20
  | 7 => 7
  | 8 => 12
  | _ => 25
def jzCn (kd : Nat) : String := match kd with
  | 0 => RX2
  | 1 => RX4
  | 2 => RX5
  | 3 => RX6
  | 4 => RX7
  | 5 => RX8
  | 6 => RX9
  | 7 => RX10
  | 8 => RX11
  | _ => RX12
def jzTb (kd : Nat) : u_T := match kd with
  | 0 => TX2
  | 1 => TX4
  | 2 => TX5
  | 3 => TX6
  | 4 => TX7
  | 5 => TX8
  | 6 => TX9
  | 7 => TX10
  | 8 => TX11
  | _ => TX12
def jzIsR : FieldType → Bool
  | .int => false
  | .boolean => false
  | _ => true
def jzF (ad : Nat → Nat) (h : jzH) (kd i k : Nat) : Value := if jzIsR (jzT kd k) = true then va_rf ((h.2.2 i (k : Int)).map ad) else .int (Int32.ofInt (h.2.1 i (k : Int)))
def jzE (G : jzG) (ad : Nat → Nat) (h : jzH) (i : Nat) (sh : Nat × Nat) : va_E :=
  if sh.1 < 10 then .inr (sh.1, (List.range (jzN sh.1)).map (jzF ad h sh.1 i))
  else if sh.1 = 10 then .inl (G.2.1 0, sh.2, .inl (fun j => Int32.ofInt (h.2.1 i (j : Int))))
  else if sh.1 = 11 then .inl (G.2.1 1, sh.2, .inl (fun j => Int32.ofInt (h.2.1 i (j : Int))))
  else if sh.1 = 12 then .inl (G.2.1 2, sh.2, .inr (.inr (.inr (.inr (fun j => (h.2.2 i (j : Int)).map ad)))))
  else .inl (G.2.1 3, sh.2, .inr (.inl (fun j => Int64.ofInt (h.2.1 i (j : Int)))))
def jzC (G : jzG) (ad : Nat → Nat) (h : jzH) : va_W := h.1.zipIdx.map (fun q => (ad q.2, jzE G ad h q.2 q.1))
theorem jzC_get (G : jzG) (ad : Nat → Nat) (h : jzH) (i : Nat) : (jzC G ad h)[i]? = (h.1[i]?).map (fun sh => (ad i, jzE G ad h i sh)) := by
  simp [jzC, List.getElem?_map, List.getElem?_zipIdx, Function.comp_def]
theorem jzC_at {G : jzG} {ad : Nat → Nat} {h : jzH} {i : Nat} {sh : Nat × Nat} (hi : h.1[i]? = some sh) : (jzC G ad h)[i]? = some (ad i, jzE G ad h i sh) := by
  rw [jzC_get, hi]; rfl
theorem jzC_ofget {G : jzG} {ad : Nat → Nat} {h : jzH} {i : Nat} {q : Nat × va_E} (hq : (jzC G ad h)[i]? = some q) : ∃ sh, h.1[i]? = some sh ∧ q = (ad i, jzE G ad h i sh) := by
  rw [jzC_get] at hq
  cases hs : h.1[i]? with
  | none => rw [hs] at hq; cases hq
  | some sh => rw [hs] at hq; exact ⟨sh, rfl, (Option.some.inj hq).symm⟩
/-- a changed cell -/
theorem jzC_set {G : jzG} {ad : Nat → Nat} {h h' : jzH} {i : Nat} {sh : Nat × Nat} {E : va_E} (hi : h.1[i]? = some sh) (h1 : h'.1 = h.1) (hE : jzE G ad h' i sh = E) (ho : ∀ j sh', j ≠ i → jzE G ad h' j sh' = jzE G ad h j sh') : (jzC G ad h).set i (ad i, E) = jzC G ad h' := by
  apply List.ext_getElem?
  intro j
  rw [List.getElem?_set, jzC_get, jzC_get, h1]
  by_cases e : i = j
  · subst e
    have hl : i < (jzC G ad h).length := (List.getElem?_eq_some_iff.mp (jzC_at (G := G) (ad := ad) hi)).1
    rw [if_pos rfl, if_pos hl, hi, ← hE]; rfl
  · rw [if_neg e]
    cases h.1[j]? with
    | none => rfl
    | some s2 => exact congrArg some (Prod.ext rfl (ho j s2 (fun q => e q.symm)).symm)
/-- a new cell at the end -/
theorem jzC_push {G : jzG} {ad ad' : Nat → Nat} {h h' : jzH} {q : Nat} {sh : Nat × Nat} {E : va_E} (h1 : h'.1 = h.1 ++ [sh]) (hq : ad' h.1.length = q) (ho : ∀ j, j < h.1.length → ad' j = ad j) (hE : jzE G ad' h' h.1.length sh = E) (hk : ∀ j sh', j < h.1.length → jzE G ad' h' j sh' = jzE G ad h j sh') : jzC G ad h ++ [(q, E)] = jzC G ad' h' := by
  apply List.ext_getElem?
  intro j
  have hl : (jzC G ad h).length = h.1.length := by simp [jzC]
  rcases Nat.lt_trichotomy j h.1.length with q1 | q1 | q1
  · rw [List.getElem?_append_left (by rw [hl]; exact q1), jzC_get, jzC_get, h1, List.getElem?_append_left q1]
    cases h.1[j]? with
    | none => rfl
    | some s2 => exact congrArg some (Prod.ext (ho j q1).symm (hk j s2 q1).symm)
  · subst q1
    rw [List.getElem?_append_right (by rw [hl]; exact Nat.le_refl _), jzC_get, h1, List.getElem?_append_right (Nat.le_refl _), hl, Nat.sub_self]
    show some (q, E) = some (ad' h.1.length, jzE G ad' h' h.1.length sh)
    rw [hq, hE]
  · rw [List.getElem?_append_right (by rw [hl]; omega), jzC_get, h1, List.getElem?_append_right (by omega), hl]
    have : j - h.1.length = (j - h.1.length - 1) + 1 := by omega
    rw [this]; rfl
def jzok (h : jzH) : Prop := (∀ i k j, h.2.2 i k = some j → j < h.1.length) ∧ (∀ i k, jin (h.2.1 i k)) ∧ ∀ sh ∈ h.1, sh.2 < 2 ^ 31
/-- the array classes -/
def jzTy (G : jzG) : List (ClassId × FieldType) := [(G.2.1 0, .byte), (G.2.1 1, .int), (G.2.1 2, .object "PainBank$State"), (G.2.1 3, .long)]
/-- the words that keep -/
def lw_good : List Cond := lw_tbl.filter goodWord
theorem lw_goodIn : GoodIn lw_good lw_good := fun w h => ⟨h, good_of_word (List.mem_filter.mp h).2⟩
theorem lw_in {w : Cond} (i : Nat) (h : lw_tbl[i]? = some w) (g : goodWord w = true) : w ∈ lw_good := List.mem_filter.mpr ⟨List.mem_of_getElem? h, g⟩
/-- words of the tables that aren't good ones, but keep, too -/
def jzWk : Cond → Bool
  | .castable _ _ => true
  | .declares _ => true
  | .methodLinkNest _ _ _ _ => true
  | _ => false
theorem jzWk_warm {w : Cond} {s U : State} (hw : jzWk w = true) (hW : s.WarmedH U.vm) (h : va_Nw w s) : va_Nw w U := by
  cases w <;> first | (cases hw; done) | exact va_Nw.warmC hW h | exact va_Nw.warmD hW h | exact va_Nw.warmM hW h
theorem jzWk_tab {w : Cond} (hw : jzWk w = true) : w.onTables = true := by
  cases w <;> first | (cases hw; done) | rfl
def jzXs : List String := ["java/lang/IndexOutOfBoundsException", "java/lang/IllegalArgumentException", "java/lang/IllegalStateException", "java/util/NoSuchElementException", "java/lang/UnsupportedOperationException"]
/-- what lies outside: the Throwable's statics, String's static, the texts, the script -/
def jzEx (G : jzG) (A : Nat → Prop) (U : State) (H : Heap) : Prop :=
  vx_Zq Bundle.tN "UNASSIGNED_STACK" Bundle.steD A U H ∧ vx_Zq Bundle.tN "SUPPRESSED_SENTINEL" Bundle.listD A U H ∧
  (va_Z "java/lang/String" "COMPACT_STRINGS" "Z" (.int 1) A U H ∧ (va_Z "jdk/internal/util/Preconditions" "SIOOBE_FORMATTER" "Ljava/util/function/BiFunction;" .null A U H ∨ va_Z "jdk/internal/util/Preconditions" "SIOOBE_FORMATTER" "Ljava/util/function/BiFunction;" (.ref (G.2.2.1 2000)) A U H)) ∧
  (∀ k, k < 33 → va_O "java/lang/String" (G.2.2.1 (k + 1)) A U H ∧ va_OF "java/lang/String" "coder" "B" (.int 0) (G.2.2.1 (k + 1)) A U H ∧ va_OF "java/lang/String" "value" "[B" (.ref (G.2.2.1 (k + 1001))) (G.2.2.1 (k + 1)) A U H ∧ va_T .byte (G.2.2.1 (k + 1001)) (jzBy.getD k []).length (fun j => .int (Int32.ofNat ((jzBy.getD k []).getD j 0))) A U H) ∧
  (∀ r ∈ jzSt, vk_R r.1 r.2.1 (jzTx.getD r.2.2 "") (G.2.2.1 (r.2.2 + 1)) U) ∧
  (∀ w ∈ lw_tbl, jzWk w = true → va_Nw w U) ∧ va_AO "PainBank$State" U ∧ (∀ x ∈ jzXs, ∀ y ∈ jzXs, x ≠ y → va_Nc x y U) ∧
  (va_X (G.2.2.1 0) G.2.2.2.1 G.2.2.2.2 U H ∧ ¬ A (G.2.2.1 0) ∧ G.2.2.1 0 < H.size)
theorem jzEx.kept {G : jzG} {A : Nat → Prop} {U : State} {H H1 : Heap} (h : jzEx G A U H) (hz : H.size ≤ H1.size) (hq : ∀ a : Nat, a < H.size → ¬ A a → H1[a]? = H[a]?) : jzEx G A U H1 := by
  obtain ⟨h1, h2, h3, h4, h5, w1, w2, w3, h6, h7, h8⟩ := h
  exact ⟨h1.kept hq, h2.kept hq, ⟨h3.1.kept hq, h3.2.imp (fun z => z.kept hq) (fun z => z.kept hq)⟩, fun k hk => ⟨(h4 k hk).1.kept hq, (h4 k hk).2.1.kept hq, (h4 k hk).2.2.1.kept hq, (h4 k hk).2.2.2.kept hq⟩, h5, w1, w2, w3, h6.kept (hq _ h8 h7), h7, Nat.lt_of_lt_of_le h8 hz⟩
theorem jzEx.narrow {G : jzG} {A B : Nat → Prop} {U : State} {H : Heap} (h : jzEx G A U H) (hAB : ∀ q, B q → A q) : jzEx G B U H := by
  obtain ⟨h1, h2, h3, h4, h5, w1, w2, w3, h6, h7, h8⟩ := h
  exact ⟨h1.narrow hAB, h2.narrow hAB, ⟨h3.1.narrow hAB, h3.2.imp (fun z => z.narrow hAB) (fun z => z.narrow hAB)⟩, fun k hk => ⟨(h4 k hk).1.narrow hAB, (h4 k hk).2.1.narrow hAB, (h4 k hk).2.2.1.narrow hAB, (h4 k hk).2.2.2.narrow hAB⟩, h5, w1, w2, w3, h6, fun q => h7 (hAB _ q), h8⟩
theorem jzEx.warm {G : jzG} {A : Nat → Prop} {s U : State} {H : Heap} (hW : s.WarmedH U.vm) (h : jzEx G A s H) : jzEx G A U H := by
  obtain ⟨h1, h2, h3, h4, h5, w1, w2, w3, h6, h7, h8⟩ := h
  exact ⟨h1.moved hW.alike, h2.moved hW.alike, ⟨h3.1.moved hW.alike, h3.2.imp (fun z => z.moved hW.alike) (fun z => z.moved hW.alike)⟩, fun k hk => ⟨(h4 k hk).1.moved hW.alike, (h4 k hk).2.1.moved hW.alike, (h4 k hk).2.2.1.moved hW.alike, (h4 k hk).2.2.2.moved hW.alike⟩, fun r hr => (h5 r hr).warm hW, fun w hw hk => jzWk_warm hk hW (w1 w hw hk), w2.moved hW.alike, fun x hx y hy n => (w3 x hx y hy n).moved hW.alike, h6.moved hW.alike, h7, h8⟩
theorem jzEx.same {G : jzG} {A : Nat → Prop} {s U : State} {H : Heap} (hv : U.vm = s.vm) (h : jzEx G A s H) : jzEx G A U H := by
  have hW : s.vm.Alike U.vm := by rw [hv]; exact Vm.Alike.refl s.vm
  obtain ⟨h1, h2, h3, h4, h5, w1, w2, w3, h6, h7, h8⟩ := h
  exact ⟨h1.moved hW, h2.moved hW, ⟨h3.1.moved hW, h3.2.imp (fun z => z.moved hW) (fun z => z.moved hW)⟩, fun k hk => ⟨(h4 k hk).1.moved hW, (h4 k hk).2.1.moved hW, (h4 k hk).2.2.1.moved hW, (h4 k hk).2.2.2.moved hW⟩, fun r hr => (h5 r hr).same hv, fun w hw hk => (w1 w hw hk).same (jzWk_tab hk) hv.symm, w2.moved hW, fun x hx y hy n => (w3 x hx y hy n).moved hW, h6.moved hW, h7, h8⟩
/-- the world: the heap holds the cells, apart, nothing else has changed since H0 -/
def jzW (G : jzG) (A : Nat → Prop) (H0 : Heap) (n0 : Nat) (ad0 ad : Nat → Nat) (h : jzH) (H : Heap) (locs : List Loc) : Prop :=
  va_P G.1 vwCl (jzC G ad h) H ∧ va_D A (jzC G ad h) ∧ va_S A H0 H locs ∧ jzok h ∧ n0 ≤ h.1.length ∧ ∀ i, i < n0 → ad i = ad0 i
/-- the locals that are known -/
def jzL (G : jzG) (ad : Nat → Nat) (n nL : Nat) (L : List (Option jzV)) (ls : Array Slot) : Prop :=
  ls.size = nL ∧ lv_wf ls ∧ ∀ (i : Nat) (v : jzV), L[i]? = some (some v) → ls[i]? = some (.val (jzv G ad v)) ∧ jok n v ∧ jone v
/-- what holds in a body -/
def jzB (G : jzG) (M : jzM) (d : Nat) (p : Program) (l : Launch) (R : Room) (s : State) (m : MethodId) (args : Array Value) (meth : Method) (c : Code) (A : Nat → Prop) : Prop :=
  p.tables.exec = Jvm.exec ∧ c.code = M.2.1 ∧ c.maxLocals = M.2.2.1 ∧ s.vm.findClass M.1.cls = some m.cls ∧ (∀ w ∈ lw_good, w.before args s = true) ∧ l.stackTraces = false ∧ meth.locks = false ∧ meth.name = M.1.name ∧ meth.sig.returnType = M.2.2.2.1 ∧ (∀ q, s.heap.size ≤ q → A q) ∧ jzEx G A s s.heap ∧ va_K G.1 vwCl (jzTy G) s ∧ d + 10 ≤ R.frames ∧ 64 * d + 200 ≤ R.locals ∧ c.exceptionTable.toList = tableOf M.2.2.2.2
theorem jB_ex {G : jzG} {M : jzM} {d : Nat} {p : Program} {l : Launch} {R : Room} {s : State} {m : MethodId} {args : Array Value} {meth : Method} {c : Code} {A : Nat → Prop} (h : jzB G M d p l R s m args meth c A) : jzEx G A s s.heap := h.2.2.2.2.2.2.2.2.2.2.1
theorem jB_K {G : jzG} {M : jzM} {d : Nat} {p : Program} {l : Launch} {R : Room} {s : State} {m : MethodId} {args : Array Value} {meth : Method} {c : Code} {A : Nat → Prop} (h : jzB G M d p l R s m args meth c A) : va_K G.1 vwCl (jzTy G) s := h.2.2.2.2.2.2.2.2.2.2.2.1
theorem jB_A {G : jzG} {M : jzM} {d : Nat} {p : Program} {l : Launch} {R : Room} {s : State} {m : MethodId} {args : Array Value} {meth : Method} {c : Code} {A : Nat → Prop} (h : jzB G M d p l R s m args meth c A) : ∀ q, s.heap.size ≤ q → A q := h.2.2.2.2.2.2.2.2.2.1
theorem jB_room {G : jzG} {M : jzM} {d : Nat} {p : Program} {l : Launch} {R : Room} {s : State} {m : MethodId} {args : Array Value} {meth : Method} {c : Code} {A : Nat → Prop} (h : jzB G M d p l R s m args meth c A) : d + 10 ≤ R.frames ∧ 64 * d + 200 ≤ R.locals := ⟨h.2.2.2.2.2.2.2.2.2.2.2.2.1, h.2.2.2.2.2.2.2.2.2.2.2.2.2.1⟩
theorem jB_tab {G : jzG} {M : jzM} {d : Nat} {p : Program} {l : Launch} {R : Room} {s : State} {m : MethodId} {args : Array Value} {meth : Method} {c : Code} {A : Nat → Prop} (h : jzB G M d p l R s m args meth c A) : c.exceptionTable.toList = tableOf M.2.2.2.2 := h.2.2.2.2.2.2.2.2.2.2.2.2.2.2
/-- what the ends must give -/
def jzFn (G : jzG) (Q : jzO → jzH → Prop) (R : Room) (s : State) (args : Array Value) (A : Nat → Prop) (Qc : Array Value → State → Outcome → State → Prop) (XC : String → State → State → Prop) (mc ms : Nat) (free : Addr → Prop) (n0 : Nat) (ad0 : Nat → Nat) : Prop :=
  (∀ (t : State) (rv : Option jzV) (h : jzH) (ad : Nat → Nat) (locs : List Loc), s.WarmedH t.vm → jzW G A s.heap n0 ad0 ad h t.heap locs → (∀ v, rv = some v → jok h.1.length v) → Q (.inl rv) h → Qc args s (.returned (rv.map (jzv G ad))) t) ∧
  (∀ (t : State) (E : String) (h : jzH) (ad : Nat → Nat) (locs : List Loc), s.vm.Alike t.vm → jzW G A s.heap n0 ad0 ad h t.heap locs → Q (.inr E) h → XC E s t) ∧
  (∀ q, A q → free q) ∧ R.cells ≤ mc ∧ R.slots ≤ ms
/-- THE JUDGEMENT: from pc with these locals, stack and cells the body comes to an end with Q; rc cells of rs slots may still be made -/
def jW (G : jzG) (M : jzM) (d : Nat) (Q : jzO → jzH → Prop) (pc : Nat) (L : List (Option jzV)) (S : List jzV) (h : jzH) (rc rs : Nat) : Prop :=
  ∀ (p : Program) (l : Launch) (e : Env) (R : Room) (s : State) (m : MethodId) (args : Array Value) (below : List Frame) (meth : Method) (c : Code) (A : Nat → Prop) (Qc : Array Value → State → Outcome → State → Prop) (XC : String → State → State → Prop) (mc ms : Nat) (free : Addr → Prop) (n0 : Nat) (ad0 ad : Nat → Nat) (ls : Array Slot) (H : Heap) (locs : List Loc) (cells slots : Nat),
    jzB G M d p l R s m args meth c A → jzFn G Q R s args A Qc XC mc ms free n0 ad0 → jzW G A s.heap n0 ad0 ad h H locs → jzL G ad h.1.length M.2.2.1 L ls → (∀ v ∈ S, jok h.1.length v) → cells + rc ≤ R.cells → slots + rs ≤ R.slots →
    W p l e R s m args below meth c H locs cells slots (vx_MQ below Qc XC args s mc ms free) (F0 m pc ls (S.map (jzv G ad)))
/-- something was thrown at pc, in a callee -/
def jWx (G : jzG) (M : jzM) (d : Nat) (Q : jzO → jzH → Prop) (pc : Nat) (L : List (Option jzV)) (E : String) (h : jzH) (rc rs : Nat) : Prop :=
  ∀ (p : Program) (l : Launch) (e : Env) (R : Room) (s : State) (m : MethodId) (args : Array Value) (below : List Frame) (meth : Method) (c : Code) (A : Nat → Prop) (Qc : Array Value → State → Outcome → State → Prop) (XC : String → State → State → Prop) (mc ms : Nat) (free : Addr → Prop) (n0 : Nat) (ad0 ad : Nat → Nat) (ls : Array Slot) (H : Heap) (locs : List Loc) (cells slots : Nat) (st : List Value) (q : Addr) (ce : Cell),
    jzB G M d p l R s m args meth c A → jzFn G Q R s args A Qc XC mc ms free n0 ad0 → jzW G A s.heap n0 ad0 ad h H locs → jzL G ad h.1.length M.2.2.1 L ls → cells + rc ≤ R.cells → slots + rs ≤ R.slots → H[q]? = some ce → ce.vm = .none → s.vm.findClass E = some ce.cls →
    vx_W p l e R s m args below meth c H locs cells slots (vx_MQ below Qc XC args s mc ms free) (F0 m pc ls st) q
def jzws (M : jzM) : List Cond := (match M.2.2.2.2 with
  | [] => Cond.code M.1 M.2.1 M.2.2.1 M.2.2.2.1
  | hh => Cond.codeWith M.1 M.2.1 M.2.2.1 M.2.2.2.1 hh) :: lw_good
def jzrm (d mc ms : Nat) : Room := { frames := d + 10, cells := mc, slots := ms, locals := 64 * d + 200 }
def jzPc (G : jzG) (As : List jzV) (h : jzH) (ad : Nat → Nat) (sz : Nat) : Array Value → State → Prop :=
  va_Pc (As.map (jzv G ad)) (fun U => U.heap.size = sz ∧ va_P G.1 vwCl (jzC G ad h) U.heap ∧ va_K G.1 vwCl (jzTy G) U ∧ va_D (fun _ => True) (jzC G ad h) ∧ jzEx G (va_A (jzC G ad h) sz) U U.heap)
def jzQc (G : jzG) (Q : jzO → jzH → Prop) (A : Nat → Prop) (n0 : Nat) (ad0 : Nat → Nat) : Array Value → State → Outcome → State → Prop := fun _ st o t =>
  (∃ (rv : Option jzV) (h : jzH) (ad : Nat → Nat), o = .returned (rv.map (jzv G ad)) ∧ Q (.inl rv) h ∧ (∀ v, rv = some v → jok h.1.length v) ∧ va_P G.1 vwCl (jzC G ad h) t.heap ∧ va_D A (jzC G ad h) ∧ jzok h ∧ n0 ≤ h.1.length ∧ ∀ i, i < n0 → ad i = ad0 i) ∧ va_F A st t
def jzXc (G : jzG) (Q : jzO → jzH → Prop) (A : Nat → Prop) (n0 : Nat) (ad0 : Nat → Nat) : String → State → State → Prop := fun E st t =>
  (∃ (h : jzH) (ad : Nat → Nat), Q (.inr E) h ∧ va_P G.1 vwCl (jzC G ad h) t.heap ∧ va_D A (jzC G ad h) ∧ jzok h ∧ n0 ≤ h.1.length ∧ ∀ i, i < n0 → ad i = ad0 i) ∧ va_F A st t
/-- A METHOD'S CONTRACT: called with As over the cells h it comes to an end with Q -/
def jS (G : jzG) (d : Nat) (M : jzM) (As : List jzV) (h : jzH) (mc ms : Nat) (Q0 : jzO → jzH → Prop) : Prop :=
  ∀ (Q : jzO → jzH → Prop), (∀ o h, Q0 o h → Q o h) → ∀ (l : Launch), l.stackTraces = false → ∀ (ad : Nat → Nat) (sz : Nat), (∀ v ∈ As, jok h.1.length v) → jzok h →
    vx_Met l M.1 (jzws M) (jzrm d mc ms) (jzPc G As h ad sz) (jzQc G Q (va_A (jzC G ad h) sz) h.1.length ad) (jzXc G Q (va_A (jzC G ad h) sz) h.1.length ad) mc ms (va_A (jzC G ad h) sz)
theorem jS_mono {G : jzG} {d : Nat} {M : jzM} {As : List jzV} {h : jzH} {mc ms : Nat} {Q Q' : jzO → jzH → Prop} (k : jS G d M As h mc ms Q) (hq : ∀ o h, Q o h → Q' o h) : jS G d M As h mc ms Q' := fun Q2 h2 => k Q2 (fun o h q => h2 o h (hq o h q))
theorem jW_mono {G : jzG} {M : jzM} {d : Nat} {Q Q' : jzO → jzH → Prop} {pc : Nat} {L : List (Option jzV)} {S : List jzV} {h : jzH} {rc rs : Nat} (hq : ∀ o h, Q o h → Q' o h) (k : jW G M d Q pc L S h rc rs) : jW G M d Q' pc L S h rc rs := by
  intro p l e R s m args below meth c A Qc XC mc ms free n0 ad0 ad ls H locs cells slots hB hF hW hL hS hc hs
  exact k p l e R s m args below meth c A Qc XC mc ms free n0 ad0 ad ls H locs cells slots hB ⟨fun t rv h ad locs a b c q => hF.1 t rv h ad locs a b c (hq _ _ q), fun t E h ad locs a b q => hF.2.1 t E h ad locs a b (hq _ _ q), hF.2.2⟩ hW hL hS hc hs
/-- a method's first locals -/
def jzA (As : List jzV) : List (Option jzV) := As.map some
theorem jz_args {G : jzG} {ad : Nat → Nat} : ∀ (As : List jzV) (i0 i : Nat) (v : jzV), (∀ v ∈ As, jone v) → As[i]? = some v → (i0 + i, jzv G ad v) ∈ lv_args i0 (As.map (jzv G ad))
  | [], _, i, v, _, h => by simp at h
  | a :: As, i0, 0, v, ho, h => by
    have e : a = v := by simpa using h
    rw [← e]
    exact List.mem_cons_self
  | a :: As, i0, i + 1, v, ho, h => by
    have h1 : (jzv G ad a).category = 1 := jzv_cat (ho a List.mem_cons_self)
    show (i0 + (i + 1), jzv G ad v) ∈ (i0, jzv G ad a) :: lv_args (if (jzv G ad a).category = 2 then i0 + 2 else i0 + 1) (As.map (jzv G ad))
    rw [if_neg (by rw [h1]; decide)]
    refine List.mem_cons_of_mem _ ?_
    have := jz_args (G := G) (ad := ad) As (i0 + 1) i v (fun w hw => ho w (List.mem_cons_of_mem _ hw)) (by simpa using h)
    rw [show i0 + (i + 1) = i0 + 1 + i by omega]
    exact this
theorem jz_sl {G : jzG} {ad : Nat → Nat} : ∀ (As : List jzV), (∀ v ∈ As, jone v) → (lg_sl (As.map (jzv G ad))).length = As.length
  | [], _ => rfl
  | a :: As, ho => by
    have h1 : (jzv G ad a).category = 1 := jzv_cat (ho a List.mem_cons_self)
    have ih := jz_sl (G := G) (ad := ad) As (fun w hw => ho w (List.mem_cons_of_mem _ hw))
    have e : lg_sl (jzv G ad a :: As.map (jzv G ad)) = [Slot.val (jzv G ad a)] ++ lg_sl (As.map (jzv G ad)) := by
      show List.flatMap _ _ = _
      rw [List.flatMap_cons, if_neg (by rw [h1]; decide)]
      rfl
    show (lg_sl (jzv G ad a :: As.map (jzv G ad))).length = _
    rw [e, List.length_append, ih]
    simp
    omega
