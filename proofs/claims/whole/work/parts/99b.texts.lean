/-! THE START: texts, statics, classes -/
def nFlat : List Cond := flatC (Jvm.Cond.and given_1 narrow_1)
def txRp : List (String × Nat) := [("PainBank$BankReader", 25), ("PainBank$BankReader", 64), ("PainBank$BankReader", 76), ("PainBank$BankReader", 34), ("PainBank$BankReader", 36), ("PainBank$BankReader", 38), ("PainBank$BankReader", 43), ("PainBank$BankReader", 45), ("PainBank$BankReader", 47), ("PainBank$BankReader", 106), ("PainBank$BankReader", 108), ("PainBank$BankReader", 110), ("PainBank$BankReader", 112), ("PainBank", 91), ("PainBank", 101), ("PainBank$LawReader", 56), ("PainBank$LawReader", 62), ("PainBank$LawReader", 74), ("PainBank$LawReader", 93), ("PainBank$LawReader", 101), ("PainBank$LawReader", 103), ("PainBank$LawReader", 109), ("PainBank$LawReader", 117), ("PainBank$LawReader", 89), ("PainBank$LawReader", 91), ("PainBank", 367), ("PainBank", 159), ("PainBank", 370), ("PainBank", 372), ("PainBank", 376), ("PainBank", 374), ("PainBank", 378), ("PainBank", 212)]
abbrev tmS (r : String × Nat) : Jvm.Term := .string r.1 r.2
abbrev tmV (r : String × Nat) : Jvm.Term := .field (tmS r) "java/lang/String" "value" "[B"
/-- what is said of a text -/
def txC4 (r : String × Nat) (bs : List Nat) : List Cond := [.exactly (tmS r) "java/lang/String", .eq (.field (tmS r) "java/lang/String" "coder" "B") (.int 0), .arrayOf (tmV r) .byte, .eq (.length (tmV r)) (.int (Int32.ofNat bs.length))] ++ (List.range bs.length).map (fun j => Cond.eq (.elem (tmV r) (.int (Int32.ofNat j))) (.int (Int32.ofNat (bs.getD j 0))))
def txIx : List (List Nat) := [[81, 82, 83, 84, 85, 86, 87, 88, 89, 90], [91, 92, 93, 94, 95, 96, 97, 98, 99], [100, 101, 102, 103, 104, 105, 106, 107], [108, 109, 110, 111, 112, 113, 114, 115], [116, 117, 118, 119, 120, 121, 122, 123, 124], [125, 126, 127, 128, 129, 130, 131, 132], [133, 134, 135, 136, 137, 138, 139, 140, 141, 142, 143], [144, 145, 146, 147, 148, 149, 150, 151, 152, 153], [154, 155, 156, 157, 158, 159, 160, 161], [162, 163, 164, 165, 166, 167, 168, 169, 170], [171, 172, 173, 174, 175, 176, 177, 178], [179, 180, 181, 182, 183, 184, 185, 186], [187, 188, 189, 190, 191, 192, 193, 194], [195, 196, 197, 198, 199, 200, 201, 202, 203, 204, 205, 206, 207, 208, 209, 210, 211, 212, 213, 214, 215], [216, 217, 218, 219, 220, 221, 222, 223, 224, 225, 226, 227, 228, 229, 230, 231, 232, 233, 234, 235, 236, 237], [238, 239, 240, 241, 242, 243, 244, 245], [246, 247, 248, 249, 250, 251, 252], [253, 254, 255, 256, 257, 258], [259, 260, 261, 262, 263, 264, 265], [266, 267, 268, 269, 270, 271, 272], [273, 274, 275, 276, 277, 278, 279, 280, 281, 282], [283, 284, 285, 286, 287, 288, 289], [321, 322, 323, 324, 325, 326, 327], [328, 329, 330, 331, 332, 333, 334], [335, 336, 337, 338, 339, 340], [341, 342, 343, 344, 345, 346, 347, 348, 349, 350, 351, 352, 353, 354, 355, 356, 357, 358], [359, 360, 361, 362, 363, 364, 365, 366, 367, 368, 369, 370, 371, 372, 373, 374], [375, 376, 377, 378, 379, 380, 381, 382, 383, 384, 385, 386, 387, 388, 389, 390, 391, 392, 393], [394, 395, 396, 397, 398, 399, 400, 401, 402, 403, 404, 405, 406, 407, 408, 409], [410, 411, 412, 413, 414, 415, 416, 417, 418, 419, 420, 421, 422, 423, 424], [425, 426, 427, 428, 429, 430, 431, 432, 433, 434, 435, 436, 437, 438, 439, 440, 441, 442, 443, 444, 445, 446], [447, 448, 449, 450, 451, 452, 453, 454, 455, 456, 457, 458, 459, 460, 461, 462, 463, 464, 465], [466, 467, 468, 469, 470, 471, 472, 473, 474, 475, 476, 477, 478, 479, 480, 481, 482, 483, 484, 485, 486, 487, 488, 489, 490, 491]]
theorem tx_ix : ∀ k, k < 33 → (txIx.getD k []).map (fun i => nFlat[i]?) = (txC4 (txRp.getD k ("", 0)) (jzBy.getD k [])).map some := by decide +kernel
def stIx : List (Nat × Nat) := [(0, 0), (0, 0), (0, 0), (0, 0), (0, 0), (0, 0), (0, 0), (0, 0), (0, 0), (0, 0), (0, 0), (0, 0), (0, 0), (0, 0), (0, 0), (0, 0), (0, 0), (0, 0), (0, 0), (0, 0), (0, 0), (0, 0), (2, 298), (2, 310), (2, 320), (0, 0), (0, 0), (0, 0), (0, 0), (0, 0), (0, 0), (0, 0), (0, 0), (0, 0), (0, 0), (0, 0), (2, 502), (2, 512), (2, 522), (2, 535), (2, 545), (2, 555), (2, 564), (2, 575), (2, 584), (2, 594), (2, 603), (2, 612), (2, 621), (2, 629), (2, 638), (2, 645), (2, 653), (2, 661), (2, 672), (2, 680), (2, 688), (2, 696), (2, 703)]
def stOk (q : (String × Nat × Nat) × (Nat × Nat)) : Bool := if q.2.1 = 0 then decide ((q.1.1, q.1.2.1) = txRp.getD q.1.2.2 ("", 0)) else if q.2.1 = 1 then decide (nFlat[q.2.2]? = some (Cond.eq (.string q.1.1 q.1.2.1) (tmS (txRp.getD q.1.2.2 ("", 0))))) else decide (nFlat[q.2.2]? = some (Cond.eq (tmS (txRp.getD q.1.2.2 ("", 0))) (.string q.1.1 q.1.2.1)))
theorem stOk_all : ∀ q ∈ jzSt.zip stIx, stOk q = true := by decide +kernel
theorem st_fst : (jzSt.zip stIx).map Prod.fst = jzSt := by decide +kernel
theorem st_lt : ∀ r ∈ jzSt, r.2.2 < 33 := by decide +kernel
def srIx : List Nat := [755, 812, 822, 824, 825, 826, 833, 834, 835, 843, 844, 845, 846, 898, 934, 957, 959, 962, 972, 983, 984, 989, 990, 991, 992, 993, 994, 995, 1054, 1082, 1100, 1113, 1135, 1157, 1163, 1187, 1538, 1553, 1566, 1577, 1587, 1592, 1593, 1594, 1603, 1608, 1613, 1614, 1615, 1620, 1621, 1622, 1643, 1652, 1653, 1662, 1663, 1664, 1665]
theorem sr_ix : srIx.map (fun i => lw_tbl[i]?) = (jzSt.map (fun r => Cond.stringRef r.1 r.2.1 (jzTx.getD r.2.2 ""))).map some := by decide +kernel
def ncIx : List (List Nat) := [[0, 22, 79, 65, 36], [48, 0, 76, 62, 34], [52, 24, 0, 66, 38], [51, 23, 80, 0, 37], [49, 20, 77, 63, 0]]
theorem nc_ix : ∀ i, i < 5 → ∀ j, j < 5 → i ≠ j → nFlat[(ncIx.getD i []).getD j 0]? = some (Cond.not (.castable (jzXs.getD i "") (jzXs.getD j ""))) := by decide +kernel
theorem ix_mem {L : List Cond} {is : List Nat} {ws : List Cond} (h : is.map (fun i => L[i]?) = ws.map some) : ∀ w ∈ ws, w ∈ L := by
  intro w hw
  have h1 : some w ∈ ws.map some := List.mem_map.mpr ⟨w, hw, rfl⟩
  rw [← h] at h1
  obtain ⟨i, -, hi⟩ := List.mem_map.mp h1
  exact List.mem_of_getElem? hi
theorem tx_at {args : Array Value} {s : State} {A : Nat → Prop} {r : String × Nat} {bs : List Nat} (hl : bs.length < 100) (hA : ∀ a : Nat, a < s.heap.size → ¬ A a) (h : ∀ w ∈ txC4 r bs, w.before args s = true) : ∃ q : Nat × Nat, (tmS r).eval args s none [] s = some (.ref q.1) ∧ va_O "java/lang/String" q.1 A s s.heap ∧ va_OF "java/lang/String" "coder" "B" (.int 0) q.1 A s s.heap ∧ va_OF "java/lang/String" "value" "[B" (.ref q.2) q.1 A s s.heap ∧ va_T .byte q.2 bs.length (fun j => .int (Int32.ofNat (bs.getD j 0))) A s s.heap := by
  have h1 : (Cond.exactly (tmS r) "java/lang/String").before args s = true := h _ (List.mem_append_left _ List.mem_cons_self)
  have h2 : (Cond.eq (.field (tmS r) "java/lang/String" "coder" "B") (.int 0)).before args s = true := h _ (List.mem_append_left _ (List.mem_cons_of_mem _ List.mem_cons_self))
  have h3 : (Cond.arrayOf (tmV r) .byte).before args s = true := h _ (List.mem_append_left _ (List.mem_cons_of_mem _ (List.mem_cons_of_mem _ List.mem_cons_self)))
  have h4 : (Cond.eq (.length (tmV r)) (.int (Int32.ofNat bs.length))).before args s = true := h _ (List.mem_append_left _ (List.mem_cons_of_mem _ (List.mem_cons_of_mem _ (List.mem_cons_of_mem _ List.mem_cons_self))))
  have h5 : ∀ j : Nat, j < bs.length → (Cond.eq (.elem (tmV r) (.int (Int32.ofNat j))) (.int (Int32.ofNat (bs.getD j 0)))).before args s = true := fun j hj => h _ (List.mem_append_right _ (List.mem_map.mpr ⟨j, List.mem_range.mpr hj, rfl⟩))
  obtain ⟨a, c, cA, kA, q1, -⟩ := Cond.exactly_spec (args := args) (first := s) (o := none) (s := s) (idx := []) (t := tmS r) (cls := "java/lang/String") h1
  obtain ⟨v, hv, hT⟩ := va_Tof (args := args) (s := s) (tm := tmV r) (ty := .byte) (N := bs.length) (f := fun j => .int (Int32.ofNat (bs.getD j 0))) (A := A) (by omega) h3 (Cond.eq_int h4 rfl) (fun j hj => Cond.eq_int (h5 j hj) rfl) hA
  exact ⟨(a, v), q1, va_Oof h1 q1 hA, vk_OFof q1 (Cond.eq_int h2 rfl) hA, vk_OFof q1 hv hA, hT⟩
theorem eq_r {args : Array Value} {s : State} {a b : Jvm.Term} {x : Nat} (h : (Cond.eq a b).before args s = true) (ha : a.eval args s none [] s = some (.ref x)) : b.eval args s none [] s = some (.ref x) := by
  simp only [Cond.before, Cond.holds, Cond.value, ha] at h
  cases hb : b.eval args s none [] s with
  | none => simp [hb] at h
  | some y =>
    cases y with
    | ref z => simp [hb] at h; rw [h]
    | _ => simp [hb] at h
theorem st_ev {args : Array Value} {s : State} {f : Nat → Nat} (hn : ∀ w ∈ nFlat, w.before args s = true) (hf : ∀ k, k < 33 → (tmS (txRp.getD k ("", 0))).eval args s none [] s = some (.ref (f k))) : ∀ r ∈ jzSt, (Jvm.Term.string r.1 r.2.1).eval args s none [] s = some (.ref (f r.2.2)) := by
  intro r hr
  have h3 := hf r.2.2 (st_lt r hr)
  rw [← st_fst] at hr
  obtain ⟨q, hq, rfl⟩ := List.mem_map.mp hr
  have h := stOk_all q hq
  unfold stOk at h
  split at h
  · have e := of_decide_eq_true h
    rw [← e] at h3
    exact h3
  · split at h
    · exact Cond.eq_refs (hn _ (List.mem_of_getElem? (of_decide_eq_true h))) h3 rfl
    · exact eq_r (hn _ (List.mem_of_getElem? (of_decide_eq_true h))) h3
