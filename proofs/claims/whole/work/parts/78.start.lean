theorem tn_1 {w : Cond} (j : Nat) (h : tables_1_1[j]? = some w) : w ∈ lw_tbl := List.mem_append_right _ (by unfold tables_1; exact List.mem_append_left _ (List.mem_of_getElem? h))
theorem tn_2 {w : Cond} (j : Nat) (h : tables_1_2[j]? = some w) : w ∈ lw_tbl := List.mem_append_right _ (by unfold tables_1; exact List.mem_append_right _ (List.mem_append_left _ (List.mem_of_getElem? h)))
theorem tn_3 {w : Cond} (j : Nat) (h : tables_1_3[j]? = some w) : w ∈ lw_tbl := List.mem_append_right _ (by unfold tables_1; exact List.mem_append_right _ (List.mem_append_right _ (List.mem_append_left _ (List.mem_of_getElem? h))))
theorem tn_4 {w : Cond} (j : Nat) (h : tables_1_4[j]? = some w) : w ∈ lw_tbl := List.mem_append_right _ (by unfold tables_1; exact List.mem_append_right _ (List.mem_append_right _ (List.mem_append_right _ (List.mem_append_left _ (List.mem_of_getElem? h)))))
theorem tn_5 {w : Cond} (j : Nat) (h : tables_1_5[j]? = some w) : w ∈ lw_tbl := List.mem_append_right _ (by unfold tables_1; exact List.mem_append_right _ (List.mem_append_right _ (List.mem_append_right _ (List.mem_append_right _ (List.mem_append_left _ (List.mem_of_getElem? h))))))
theorem tn_6 {w : Cond} (j : Nat) (h : tables_1_6[j]? = some w) : w ∈ lw_tbl := List.mem_append_right _ (by unfold tables_1; exact List.mem_append_right _ (List.mem_append_right _ (List.mem_append_right _ (List.mem_append_right _ (List.mem_append_right _ (List.mem_of_getElem? h))))))
theorem nestI_in : ∀ w ∈ nestI, w ∈ lw_tbl := by
  intro w hw
  simp only [nestI, List.mem_cons, List.not_mem_nil, or_false] at hw
  rcases hw with rfl | rfl | rfl | rfl | rfl
  · exact tn_1 24 rfl
  · exact tn_1 219 rfl
  · exact tn_1 230 rfl
  · exact tn_2 3 rfl
  · exact tn_2 29 rfl
theorem nestW_in : ∀ w ∈ nestW, w ∈ lw_tbl := by
  intro w hw
  simp only [nestW, List.mem_cons, List.not_mem_nil, or_false] at hw
  rcases hw with rfl | rfl | rfl | rfl | rfl | rfl | rfl
  all_goals first | exact tn_2 122 rfl | exact tn_2 190 rfl | exact tn_2 193 rfl | exact tn_2 235 rfl | exact tn_3 137 rfl | exact tn_3 220 rfl | exact tn_4 23 rfl
def adF (q0 q9 : Nat) (u8 u9 : Nat → Nat) (tO tC b : Nat) : Nat → Nat := fun k => if k = 0 then q0 else if k = 9 then q9 else if k = 64 then tO else if k = 65 then tC else if k = 66 then b else if k < 39 then u8 k else u9 k
def ws64 (cI cL cZ : ClassId) (q0 q9 : Nat) (u8 u9 : Nat → Nat) : va_W := [(q0, .inr (8, [.ref (u8 1), .ref (u8 10), .ref (u8 11), .ref (u8 12), .ref (u8 2), .ref (u8 3), .ref (u8 4), .ref (u8 5), .ref (u8 6), .ref (u8 7), .ref (u8 8)])), ((u8 1), .inr (3, [.ref (u8 13), .int (Int32.ofInt 0), .int (Int32.ofInt (-1)), .int (Int32.ofInt 0), .int (Int32.ofInt 0), .ref (u8 14), .ref (u8 15), .ref (u8 16), .int (Int32.ofInt 0)])), ((u8 13), aI cI 13 60), ((u8 14), aI cI 14 16), ((u8 15), aI cI 15 4), ((u8 16), aI cI 16 3), ((u8 10), aI cI 10 4), ((u8 11), aI cI 11 4), ((u8 12), aI cI 12 5), ((u8 2), .inr (1, [.ref (u8 1), .ref (u8 10), .ref (u8 11), .int (Int32.ofInt 0), .int (Int32.ofInt 0), .int (Int32.ofInt 0), .int (Int32.ofInt 0), .int (Int32.ofInt 0), .int (Int32.ofInt 0), .ref (u8 17), .ref (u8 18), .ref (u8 19), .ref (u8 20)])), ((u8 17), aI cI 17 16), ((u8 18), aI cI 18 4), ((u8 19), aI cI 19 4), ((u8 20), aI cI 20 4), ((u8 3), .inr (0, [.ref (u8 2), .ref (u8 21), .ref (u8 22), .ref (u8 23), .ref (u8 24), .long (Int64.ofInt 0), .ref (u8 25)])), ((u8 21), aL cL 21 16), ((u8 22), aL cL 22 60), ((u8 23), aL cL 23 20), ((u8 24), aL cL 24 4), ((u8 25), aL cL 25 4), ((u8 4), .inr (4, [.ref (u8 2), .ref (u8 3), .long (Int64.ofInt 0), .int (Int32.ofInt 0), .int (Int32.ofInt 0), .int (Int32.ofInt 0), .ref (u8 26), .ref (u8 27), .ref (u8 28), .ref (u8 29), .ref (u8 30)])), ((u8 26), aI cI 26 4), ((u8 27), aI cI 27 4), ((u8 28), aI cI 28 4), ((u8 29), aI cI 29 4), ((u8 30), aI cI 30 4), ((u8 5), .inr (2, [.int (Int32.ofInt 0)])), ((u8 6), .inr (6, [.long (Int64.ofInt 0), .long (Int64.ofInt 1)])), ((u8 7), .inr (5, [.int (Int32.ofInt 0), .ref (u8 31), .ref (u8 32), .ref (u8 33), .ref (u8 34), .ref (u8 35)])), ((u8 31), aI cI 31 60), ((u8 32), aI cI 32 60), ((u8 33), aI cI 33 60), ((u8 34), aI cI 34 60), ((u8 35), aI cI 35 60), ((u8 8), .inr (7, [.int (Int32.ofInt 0), .ref (u8 36), .ref (u8 37), .ref (u8 38)])), ((u8 36), aI cI 36 4), ((u8 37), aI cI 37 4), ((u8 38), aI cI 38 240), (q9, .inr (9, [.ref (u9 39), .ref (u9 40), .ref (u9 41), .ref (u9 42), .int (Int32.ofInt 0), .ref (u9 43), .int (Int32.ofInt 0), .int (Int32.ofInt 0), .int (Int32.ofInt 0), .ref (u9 44), .int (Int32.ofInt 0), .ref (u9 45), .ref (u9 46), .ref (u9 47), .ref (u9 48), .ref (u9 49), .ref (u9 50), .ref (u9 51), .ref (u9 52), .int (Int32.ofInt 0), .int (Int32.ofInt 0), .int (Int32.ofInt 0), .int (Int32.ofInt 0), .int (Int32.ofInt 0), .ref (u9 53), .ref (u9 54), .int (Int32.ofInt 0), .int (Int32.ofInt 0), .long (Int64.ofInt 0), .ref (u9 55), .ref (u9 56), .ref (u9 57), .int (Int32.ofInt 0), .int (Int32.ofInt 0), .ref (u9 58), .ref (u9 59), .ref (u9 60), .ref (u9 61), .ref (u9 62), .ref (u9 63)])), ((u9 39), aI cI 39 4), ((u9 40), aI cI 40 4), ((u9 41), aI cI 41 240), ((u9 42), aI cI 42 60), ((u9 43), aI cI 43 60), ((u9 44), aI cI 44 16), ((u9 45), aI cI 45 4), ((u9 46), aI cI 46 3), ((u9 47), aI cI 47 4), ((u9 48), aI cI 48 4), ((u9 49), aI cI 49 5), ((u9 50), aI cI 50 5), ((u9 51), aI cI 51 5), ((u9 52), aI cI 52 4), ((u9 53), aL cL 53 50), ((u9 54), aL cL 54 50), ((u9 55), aI cI 55 4), ((u9 56), aI cI 56 4), ((u9 57), aI cI 57 5), ((u9 58), aI cI 58 60), ((u9 59), aI cI 59 60), ((u9 60), aI cI 60 60), ((u9 61), aI cZ 61 60), ((u9 62), aI cI 62 60), ((u9 63), aI cI 63 8)]
def pmL : List Nat := [0, 1, 9, 14, 20, 26, 27, 28, 34, 38, 6, 7, 8, 2, 3, 4, 5, 10, 11, 12, 13, 15, 16, 17, 18, 19, 21, 22, 23, 24, 25, 29, 30, 31, 32, 33, 35, 36, 37, 39, 40, 41, 42, 43, 44, 45, 46, 47, 48, 49, 50, 51, 52, 53, 54, 55, 56, 57, 58, 59, 60, 61, 62, 63]
def qmL : List Nat := [0, 1, 13, 14, 15, 16, 10, 11, 12, 2, 17, 18, 19, 20, 3, 21, 22, 23, 24, 25, 4, 26, 27, 28, 29, 30, 5, 6, 7, 31, 32, 33, 34, 35, 8, 36, 37, 38, 9, 39, 40, 41, 42, 43, 44, 45, 46, 47, 48, 49, 50, 51, 52, 53, 54, 55, 56, 57, 58, 59, 60, 61, 62, 63]
theorem pm_inj : ∀ i j : Nat, i < 64 → j < 64 → pmL.getD i 0 = pmL.getD j 0 → i = j := by
  intro i j hi hj h
  have key : ∀ k, k < 64 → qmL.getD (pmL.getD k 0) 0 = k := by decide +kernel
  rw [← key i hi, ← key j hj, h]
set_option maxHeartbeats 4000000 in
set_option maxRecDepth 100000 in
theorem ws64_at {D : va_G} {cI cL cZ : ClassId} {q0 q9 : Nat} {u8 u9 : Nat → Nat} {tO tC b : Nat} : ∀ (k : Nat) (t : Nat × Nat), k < 64 → lay[k]? = some t → (ws64 cI cL cZ q0 q9 u8 u9)[pmL.getD k 0]? = some (adF q0 q9 u8 u9 tO tC b k, cellOf (D, adF q0 q9 u8 u9 tO tC b, (cI, cL, cZ)) μ0 k t) := by
  intro k t hk ht
  rcases (show k = 0 ∨ k = 1 ∨ k = 2 ∨ k = 3 ∨ k = 4 ∨ k = 5 ∨ k = 6 ∨ k = 7 ∨ k = 8 ∨ k = 9 ∨ k = 10 ∨ k = 11 ∨ k = 12 ∨ k = 13 ∨ k = 14 ∨ k = 15 ∨ k = 16 ∨ k = 17 ∨ k = 18 ∨ k = 19 ∨ k = 20 ∨ k = 21 ∨ k = 22 ∨ k = 23 ∨ k = 24 ∨ k = 25 ∨ k = 26 ∨ k = 27 ∨ k = 28 ∨ k = 29 ∨ k = 30 ∨ k = 31 ∨ k = 32 ∨ k = 33 ∨ k = 34 ∨ k = 35 ∨ k = 36 ∨ k = 37 ∨ k = 38 ∨ k = 39 ∨ k = 40 ∨ k = 41 ∨ k = 42 ∨ k = 43 ∨ k = 44 ∨ k = 45 ∨ k = 46 ∨ k = 47 ∨ k = 48 ∨ k = 49 ∨ k = 50 ∨ k = 51 ∨ k = 52 ∨ k = 53 ∨ k = 54 ∨ k = 55 ∨ k = 56 ∨ k = 57 ∨ k = 58 ∨ k = 59 ∨ k = 60 ∨ k = 61 ∨ k = 62 ∨ k = 63 by omega) with rfl | rfl | rfl | rfl | rfl | rfl | rfl | rfl | rfl | rfl | rfl | rfl | rfl | rfl | rfl | rfl | rfl | rfl | rfl | rfl | rfl | rfl | rfl | rfl | rfl | rfl | rfl | rfl | rfl | rfl | rfl | rfl | rfl | rfl | rfl | rfl | rfl | rfl | rfl | rfl | rfl | rfl | rfl | rfl | rfl | rfl | rfl | rfl | rfl | rfl | rfl | rfl | rfl | rfl | rfl | rfl | rfl | rfl | rfl | rfl | rfl | rfl | rfl | rfl
  · obtain rfl : (3, 8) = t := Option.some.inj ((show lay[0]? = some (3, 8) from rfl).symm.trans ht)
    rfl
  · obtain rfl : (3, 3) = t := Option.some.inj ((show lay[1]? = some (3, 3) from rfl).symm.trans ht)
    rfl
  · obtain rfl : (3, 1) = t := Option.some.inj ((show lay[2]? = some (3, 1) from rfl).symm.trans ht)
    rfl
  · obtain rfl : (3, 0) = t := Option.some.inj ((show lay[3]? = some (3, 0) from rfl).symm.trans ht)
    rfl
  · obtain rfl : (3, 4) = t := Option.some.inj ((show lay[4]? = some (3, 4) from rfl).symm.trans ht)
    rfl
  · obtain rfl : (3, 2) = t := Option.some.inj ((show lay[5]? = some (3, 2) from rfl).symm.trans ht)
    rfl
  · obtain rfl : (3, 6) = t := Option.some.inj ((show lay[6]? = some (3, 6) from rfl).symm.trans ht)
    rfl
  · obtain rfl : (3, 5) = t := Option.some.inj ((show lay[7]? = some (3, 5) from rfl).symm.trans ht)
    rfl
  · obtain rfl : (3, 7) = t := Option.some.inj ((show lay[8]? = some (3, 7) from rfl).symm.trans ht)
    rfl
  · obtain rfl : (3, 9) = t := Option.some.inj ((show lay[9]? = some (3, 9) from rfl).symm.trans ht)
    rfl
  · obtain rfl : (0, 4) = t := Option.some.inj ((show lay[10]? = some (0, 4) from rfl).symm.trans ht)
    rfl
  · obtain rfl : (0, 4) = t := Option.some.inj ((show lay[11]? = some (0, 4) from rfl).symm.trans ht)
    rfl
  · obtain rfl : (0, 5) = t := Option.some.inj ((show lay[12]? = some (0, 5) from rfl).symm.trans ht)
    rfl
  · obtain rfl : (0, 60) = t := Option.some.inj ((show lay[13]? = some (0, 60) from rfl).symm.trans ht)
    rfl
  · obtain rfl : (0, 16) = t := Option.some.inj ((show lay[14]? = some (0, 16) from rfl).symm.trans ht)
    rfl
  · obtain rfl : (0, 4) = t := Option.some.inj ((show lay[15]? = some (0, 4) from rfl).symm.trans ht)
    rfl
  · obtain rfl : (0, 3) = t := Option.some.inj ((show lay[16]? = some (0, 3) from rfl).symm.trans ht)
    rfl
  · obtain rfl : (0, 16) = t := Option.some.inj ((show lay[17]? = some (0, 16) from rfl).symm.trans ht)
    rfl
  · obtain rfl : (0, 4) = t := Option.some.inj ((show lay[18]? = some (0, 4) from rfl).symm.trans ht)
    rfl
  · obtain rfl : (0, 4) = t := Option.some.inj ((show lay[19]? = some (0, 4) from rfl).symm.trans ht)
    rfl
  · obtain rfl : (0, 4) = t := Option.some.inj ((show lay[20]? = some (0, 4) from rfl).symm.trans ht)
    rfl
  · obtain rfl : (1, 16) = t := Option.some.inj ((show lay[21]? = some (1, 16) from rfl).symm.trans ht)
    rfl
  · obtain rfl : (1, 60) = t := Option.some.inj ((show lay[22]? = some (1, 60) from rfl).symm.trans ht)
    rfl
  · obtain rfl : (1, 20) = t := Option.some.inj ((show lay[23]? = some (1, 20) from rfl).symm.trans ht)
    rfl
  · obtain rfl : (1, 4) = t := Option.some.inj ((show lay[24]? = some (1, 4) from rfl).symm.trans ht)
    rfl
  · obtain rfl : (1, 4) = t := Option.some.inj ((show lay[25]? = some (1, 4) from rfl).symm.trans ht)
    rfl
  · obtain rfl : (0, 4) = t := Option.some.inj ((show lay[26]? = some (0, 4) from rfl).symm.trans ht)
    rfl
  · obtain rfl : (0, 4) = t := Option.some.inj ((show lay[27]? = some (0, 4) from rfl).symm.trans ht)
    rfl
  · obtain rfl : (0, 4) = t := Option.some.inj ((show lay[28]? = some (0, 4) from rfl).symm.trans ht)
    rfl
  · obtain rfl : (0, 4) = t := Option.some.inj ((show lay[29]? = some (0, 4) from rfl).symm.trans ht)
    rfl
  · obtain rfl : (0, 4) = t := Option.some.inj ((show lay[30]? = some (0, 4) from rfl).symm.trans ht)
    rfl
  · obtain rfl : (0, 60) = t := Option.some.inj ((show lay[31]? = some (0, 60) from rfl).symm.trans ht)
    rfl
  · obtain rfl : (0, 60) = t := Option.some.inj ((show lay[32]? = some (0, 60) from rfl).symm.trans ht)
    rfl
  · obtain rfl : (0, 60) = t := Option.some.inj ((show lay[33]? = some (0, 60) from rfl).symm.trans ht)
    rfl
  · obtain rfl : (0, 60) = t := Option.some.inj ((show lay[34]? = some (0, 60) from rfl).symm.trans ht)
    rfl
  · obtain rfl : (0, 60) = t := Option.some.inj ((show lay[35]? = some (0, 60) from rfl).symm.trans ht)
    rfl
  · obtain rfl : (0, 4) = t := Option.some.inj ((show lay[36]? = some (0, 4) from rfl).symm.trans ht)
    rfl
  · obtain rfl : (0, 4) = t := Option.some.inj ((show lay[37]? = some (0, 4) from rfl).symm.trans ht)
    rfl
  · obtain rfl : (0, 240) = t := Option.some.inj ((show lay[38]? = some (0, 240) from rfl).symm.trans ht)
    rfl
  · obtain rfl : (0, 4) = t := Option.some.inj ((show lay[39]? = some (0, 4) from rfl).symm.trans ht)
    rfl
  · obtain rfl : (0, 4) = t := Option.some.inj ((show lay[40]? = some (0, 4) from rfl).symm.trans ht)
    rfl
  · obtain rfl : (0, 240) = t := Option.some.inj ((show lay[41]? = some (0, 240) from rfl).symm.trans ht)
    rfl
  · obtain rfl : (0, 60) = t := Option.some.inj ((show lay[42]? = some (0, 60) from rfl).symm.trans ht)
    rfl
  · obtain rfl : (0, 60) = t := Option.some.inj ((show lay[43]? = some (0, 60) from rfl).symm.trans ht)
    rfl
  · obtain rfl : (0, 16) = t := Option.some.inj ((show lay[44]? = some (0, 16) from rfl).symm.trans ht)
    rfl
  · obtain rfl : (0, 4) = t := Option.some.inj ((show lay[45]? = some (0, 4) from rfl).symm.trans ht)
    rfl
  · obtain rfl : (0, 3) = t := Option.some.inj ((show lay[46]? = some (0, 3) from rfl).symm.trans ht)
    rfl
  · obtain rfl : (0, 4) = t := Option.some.inj ((show lay[47]? = some (0, 4) from rfl).symm.trans ht)
    rfl
  · obtain rfl : (0, 4) = t := Option.some.inj ((show lay[48]? = some (0, 4) from rfl).symm.trans ht)
    rfl
  · obtain rfl : (0, 5) = t := Option.some.inj ((show lay[49]? = some (0, 5) from rfl).symm.trans ht)
    rfl
  · obtain rfl : (0, 5) = t := Option.some.inj ((show lay[50]? = some (0, 5) from rfl).symm.trans ht)
    rfl
  · obtain rfl : (0, 5) = t := Option.some.inj ((show lay[51]? = some (0, 5) from rfl).symm.trans ht)
    rfl
  · obtain rfl : (0, 4) = t := Option.some.inj ((show lay[52]? = some (0, 4) from rfl).symm.trans ht)
    rfl
  · obtain rfl : (1, 50) = t := Option.some.inj ((show lay[53]? = some (1, 50) from rfl).symm.trans ht)
    rfl
  · obtain rfl : (1, 50) = t := Option.some.inj ((show lay[54]? = some (1, 50) from rfl).symm.trans ht)
    rfl
  · obtain rfl : (0, 4) = t := Option.some.inj ((show lay[55]? = some (0, 4) from rfl).symm.trans ht)
    rfl
  · obtain rfl : (0, 4) = t := Option.some.inj ((show lay[56]? = some (0, 4) from rfl).symm.trans ht)
    rfl
  · obtain rfl : (0, 5) = t := Option.some.inj ((show lay[57]? = some (0, 5) from rfl).symm.trans ht)
    rfl
  · obtain rfl : (0, 60) = t := Option.some.inj ((show lay[58]? = some (0, 60) from rfl).symm.trans ht)
    rfl
  · obtain rfl : (0, 60) = t := Option.some.inj ((show lay[59]? = some (0, 60) from rfl).symm.trans ht)
    rfl
  · obtain rfl : (0, 60) = t := Option.some.inj ((show lay[60]? = some (0, 60) from rfl).symm.trans ht)
    rfl
  · obtain rfl : (2, 60) = t := Option.some.inj ((show lay[61]? = some (2, 60) from rfl).symm.trans ht)
    rfl
  · obtain rfl : (0, 60) = t := Option.some.inj ((show lay[62]? = some (0, 60) from rfl).symm.trans ht)
    rfl
  · obtain rfl : (0, 8) = t := Option.some.inj ((show lay[63]? = some (0, 8) from rfl).symm.trans ht)
    rfl
theorem REL0 : REL μ0 := by
  have eP : pPe (μ0 43) 0 = 0 := rfl
  have eT : pTa (μ0 43) 0 = 0 := rfl
  have h4 : ∀ k : Int, 0 ≤ k → k < 4 → μ0 48 k = 4 := fun k k0 k1 => by
    show (if 0 ≤ k ∧ k < 4 then (4 : Int) else 0) = 4
    rw [if_pos ⟨k0, k1⟩]
  have h36 : ∀ k : Int, 0 ≤ k → k < 4 → μ0 36 k = -1 := fun k k0 k1 => by
    show (if 0 ≤ k ∧ k < 4 then (-1 : Int) else 0) = -1
    rw [if_pos ⟨k0, k1⟩]
  have h39 : ∀ k : Int, 0 ≤ k → k < 4 → μ0 39 k = -1 := fun k k0 k1 => by
    show (if 0 ≤ k ∧ k < 4 then (-1 : Int) else 0) = -1
    rw [if_pos ⟨k0, k1⟩]
  have z : ∀ (c : Nat) (k : Int), c ∉ [101, 118, 11, 48, 36, 39] → μ0 c k = 0 := fun c k h => by
    simp only [List.mem_cons, List.not_mem_nil, or_false, not_or] at h
    obtain ⟨a1, a2, a3, a4, a5, a6⟩ := h
    unfold μ0
    rw [if_neg a1, if_neg a2, if_neg a3, if_neg a4, if_neg a5, if_neg a6]
  have e122 : μ0 122 0 = 0 := rfl
  refine ⟨⟨rfl, rfl, by rw [e122]; omega, ?_, ?_, rfl, rfl, rfl, rfl, ?_, ?_, ?_, ?_⟩, ?_, ?_, ?_, rfl, ?_⟩
  · intro k k0 k1; rw [e122] at k1; omega
  · refine ⟨rfl, rfl, ?_, ?_, ?_⟩
    · intro k k0 k1; rw [e122, eP] at k1; omega
    · intro k k0 k1; rw [e122, eT] at k1; omega
    · intro k k0 k1
      rcases (show k = 0 ∨ k = 1 ∨ k = 2 by omega) with rfl | rfl | rfl <;> rfl
  · intro p p0 p1; rw [z 47 p (by decide)]; omega
  · intro p p0 p1; rw [h4 p p0 p1]; omega
  · intro p p0 p1; rw [z 57 p (by decide)]; omega
  · refine ⟨⟨by rw [z 135 0 (by decide)]; omega, fun j j0 j1 => ?_⟩, rfl, fun j j0 j1 => ?_⟩
    · rw [z 135 0 (by decide)] at j1; omega
    · rw [z 135 0 (by decide)] at j1; omega
  · intro s s0 s1
    refine ⟨by rw [z 40 s (by decide)]; omega, by rw [z 37 s (by decide)]; omega, Or.inl ⟨h36 s s0 s1, h39 s s0 s1⟩⟩
  · intro k k0 k1; rw [z 38 k (by decide)]; omega
  · intro k k0 k1; rw [z 41 k (by decide)]; omega
  · rw [z 121 0 (by decide)]; omega
theorem arr_known {s : State} {args : Array Value} {ty : FieldType} (h : (Cond.arrayClass ty).before args s = true) (hpr : ∀ (U : State) (x : ClassId), va_RA U x ty = (U.vm.findClass ("[" ++ ty.toString) = some x)) (hno : ∀ n, ty ≠ .object n) : ∃ cA : ClassId, ArrOfT s cA ty ∧ va_RA s cA ty := by
  obtain ⟨cA, kA, comp, hfind, hk, hkind⟩ := Cond.arrayClass_spec h
  exact ⟨cA, fun n z => ⟨fun k h => (by cases h), kA, hk, comp, hkind⟩, by rw [hpr]; exact hfind⟩
set_option maxHeartbeats 4000000 in
set_option maxRecDepth 100000 in
theorem whole_start {p : Program} {e : Env} {s : State} {m : MethodId} {below : List Frame} {meth : Method} {c : Code} (l : Launch) (hflags : l.flags = flags0) {b L : Nat} {xs : Nat → Int32} (hL : L ≤ 3072) (C0 : lw_At p s m meth c b L xs) : W p l e room_1 s m #[Value.ref b] below meth c s.heap [] 0 0 (lw_Z below #[Value.ref b] s) (entryFrame m ([Value.ref b] : List Value).toArray 4) := by
  obtain ⟨hx, hb, hr, hml, hown, hts, hX, hbl, hlocks, hgv⟩ := id C0
  have htg : ∀ w ∈ tblG, w.before #[Value.ref b] s = true := fun w hw => hts w (List.mem_filter.mp hw).1
  have hA : ∀ q : Nat, s.heap.size ≤ q → (fun q : Nat => s.heap.size ≤ q) q := fun _ h => h
  obtain ⟨c0, iS0, hKn0⟩ := u_known (C := RX0) (T := TX0) (N := 7) (n := 7) htg inK0 (htg (.instantiable RX0 7) (tc_1 140 rfl rfl))
  obtain ⟨c1, iS1, hKn1⟩ := u_known (C := RX1) (T := TX1) (N := 13) (n := 13) htg inK1 (htg (.instantiable RX1 13) (tc_1 70 rfl rfl))
  obtain ⟨c2, iS2, hKn2⟩ := u_known (C := RX2) (T := TX2) (N := 1) (n := 1) htg inK2 (htg (.instantiable RX2 1) (tc_1 218 rfl rfl))
  obtain ⟨c3, iS3, hKn3⟩ := u_known (C := RX3) (T := TX3) (N := 9) (n := 9) htg inK3 (htg (.instantiable RX3 9) (tc_1 23 rfl rfl))
  obtain ⟨c4, iS4, hKn4⟩ := u_known (C := RX4) (T := TX4) (N := 11) (n := 11) htg inK4 (htg (.instantiable RX4 11) (tc_1 171 rfl rfl))
  obtain ⟨c5, iS5, hKn5⟩ := u_known (C := RX5) (T := TX5) (N := 6) (n := 6) htg inK5 (htg (.instantiable RX5 6) (tc_2 2 rfl rfl))
  obtain ⟨c6, iS6, hKn6⟩ := u_known (C := RX6) (T := TX6) (N := 2) (n := 2) htg inK6 (htg (.instantiable RX6 2) (tc_1 229 rfl rfl))
  obtain ⟨c7, iS7, hKn7⟩ := u_known (C := RX7) (T := TX7) (N := 4) (n := 4) htg inK7 (htg (.instantiable RX7 4) (tc_2 28 rfl rfl))
  obtain ⟨c8, iS8, hKn8⟩ := u_known (C := RX8) (T := TX8) (N := 11) (n := 11) htg inK8 (htg (.instantiable RX8 11) (tc_1 15 rfl rfl))
  obtain ⟨c9, iS9, hKn9⟩ := u_known (C := RX9) (T := TX9) (N := 40) (n := 40) htg inK9 (htg (.instantiable RX9 40) (tc_4 150 rfl rfl))
  obtain ⟨D, hKc⟩ : ∃ D : va_G, ∀ (k : Nat) (q : vw_C), classes[k]? = some q → u_Kn s q.1 q.2.1 q.2.2 (D.1 k) (D.2 k) := by
    refine ⟨(fun k => if k = 0 then c0 else if k = 1 then c1 else if k = 2 then c2 else if k = 3 then c3 else if k = 4 then c4 else if k = 5 then c5 else if k = 6 then c6 else if k = 7 then c7 else if k = 8 then c8 else c9, fun k => if k = 0 then iS0 else if k = 1 then iS1 else if k = 2 then iS2 else if k = 3 then iS3 else if k = 4 then iS4 else if k = 5 then iS5 else if k = 6 then iS6 else if k = 7 then iS7 else if k = 8 then iS8 else iS9), ?_⟩
    intro k q hq
    match k, hq with
    | 0, hq => cases hq; exact hKn0
    | 1, hq => cases hq; exact hKn1
    | 2, hq => cases hq; exact hKn2
    | 3, hq => cases hq; exact hKn3
    | 4, hq => cases hq; exact hKn4
    | 5, hq => cases hq; exact hKn5
    | 6, hq => cases hq; exact hKn6
    | 7, hq => cases hq; exact hKn7
    | 8, hq => cases hq; exact hKn8
    | 9, hq => cases hq; exact hKn9
    | k + 10, hq => simp [classes] at hq
  obtain ⟨cI, hcI⟩ := arr_known (ty := .int) (htg (.arrayClass .int) (tc_1 68 rfl rfl)) (fun _ _ => rfl) (fun _ h => by cases h)
  obtain ⟨cL, hcL⟩ := arr_known (ty := .long) (htg (.arrayClass .long) (tc_1 169 rfl rfl)) (fun _ _ => rfl) (fun _ h => by cases h)
  obtain ⟨cZ, hcZ⟩ := arr_known (ty := .boolean) (htg (.arrayClass .boolean) (tc_5 36 rfl rfl)) (fun _ _ => rfl) (fun _ h => by cases h)
  have hK : va_K D classes [(cI, .int), (cL, .long), (cZ, .boolean)] s := by
    refine ⟨hKc, fun k q h => ?_⟩
    match k, h with
    | 0, h => cases h; exact hcI
    | 1, h => cases h; exact hcL
    | 2, h => cases h; exact hcZ
    | k + 3, h => simp at h
  have hs := flat_of_before _ hgv
  obtain ⟨tO, htO, hTO⟩ := va_Tof (tm := (.static "LaughsLast$Chances" "OWED" "[J")) (ty := .long) (N := 5) (f := fun j => .long (Int64.ofInt (owI j))) (A := fun q : Nat => s.heap.size ≤ q) (by decide) (hs _ (by decide +kernel)) (va_eqt (hs _ (by decide +kernel))) (fun j hj => by
    rcases (show j = 0 ∨ j = 1 ∨ j = 2 ∨ j = 3 ∨ j = 4 by omega) with rfl | rfl | rfl | rfl | rfl
    · exact va_eqtl (hs _ (by decide +kernel))
    · exact va_eqtl (hs _ (by decide +kernel))
    · exact va_eqtl (hs _ (by decide +kernel))
    · exact va_eqtl (hs _ (by decide +kernel))
    · exact va_eqtl (hs _ (by decide +kernel))) (fun a h => Nat.not_le.mpr h)
  have hZO := va_Zref (A := fun q : Nat => s.heap.size ≤ q) (hts (.laysStatic "LaughsLast$Chances" "OWED" "[J") (tn_3 5 rfl)) (hts (.initialized "LaughsLast$Chances") (tn_1 4 rfl)) htO (fun a h => Nat.not_le.mpr h)
  obtain ⟨tC, htC, hTC⟩ := va_Tof (tm := (.static "LaughsLast$Chances" "COSTS" "[J")) (ty := .long) (N := 5) (f := fun j => .long (Int64.ofInt (coI j))) (A := fun q : Nat => s.heap.size ≤ q) (by decide) (hs _ (by decide +kernel)) (va_eqt (hs _ (by decide +kernel))) (fun j hj => by
    rcases (show j = 0 ∨ j = 1 ∨ j = 2 ∨ j = 3 ∨ j = 4 by omega) with rfl | rfl | rfl | rfl | rfl
    · exact va_eqtl (hs _ (by decide +kernel))
    · exact va_eqtl (hs _ (by decide +kernel))
    · exact va_eqtl (hs _ (by decide +kernel))
    · exact va_eqtl (hs _ (by decide +kernel))
    · exact va_eqtl (hs _ (by decide +kernel))) (fun a h => Nat.not_le.mpr h)
  have hZC := va_Zref (A := fun q : Nat => s.heap.size ≤ q) (hts (.laysStatic "LaughsLast$Chances" "COSTS" "[J") (tn_3 58 rfl)) (hts (.initialized "LaughsLast$Chances") (tn_1 4 rfl)) htC (fun a h => Nat.not_le.mpr h)
  have hNI : NI s := fun w hw => va_Nw.of (nestI_tab w hw) (hts w (nestI_in w hw))
  have hNW : NW s := fun w hw => va_Nw.of (nest_tab w hw) (hts w (nestW_in w hw))
  have hS : va_S (fun q : Nat => s.heap.size ≤ q) s.heap s.heap [] := va_S.rf
  have hP : va_P D classes [] s.heap := fun k q h => by simp at h
  have hD : va_D (fun q : Nat => s.heap.size ≤ q) [] := ⟨fun i j p q h => by simp at h, fun k q h => by simp at h⟩
  have hl := lv_entry ([.ref b]) (n := 4) (Nat.le_of_ble_eq_true rfl)
  rw [lg_entry_eq]
  generalize (lg_sl ([.ref b]) ++ List.replicate (4 - (lg_sl ([.ref b])).length) Slot.unset).toArray = ls at hl ⊢
  have hl : lv_has ls 4 [(0, .ref b)] := hl
  refine va_new (ci := 8) (fs := [.null, .null, .null, .null, .null, .null, .null, .null, .null, .null, .null]) (C := RX8) (T := TX8) (N := 11) hx hb htg inK8 tyX8 tyX8_ok hown (htg (.classLink RL 7 RX8) (tc_1 14 rfl rfl)) (htg (.instantiable RX8 11) (tc_1 15 rfl rfl)) (htg (.initialized RX8) (tc_1 1 rfl rfl)) hK hP hD hS hA rfl (fun j hj => by rcases (show j = 0 ∨ j = 1 ∨ j = 2 ∨ j = 3 ∨ j = 4 ∨ j = 5 ∨ j = 6 ∨ j = 7 ∨ j = 8 ∨ j = 9 ∨ j = 10 by omega) with rfl | rfl | rfl | rfl | rfl | rfl | rfl | rfl | rfl | rfl | rfl <;> rfl) (Nat.le_of_ble_eq_true rfl) (Nat.le_of_ble_eq_true rfl) dL_law_0 (fun q0 H hP hD hS => ?_)
  have hP : va_P D classes [(q0, .inr (8, [.null, .null, .null, .null, .null, .null, .null, .null, .null, .null, .null]))] H := hP
  have hD : va_D (fun q : Nat => s.heap.size ≤ q) [(q0, .inr (8, [.null, .null, .null, .null, .null, .null, .null, .null, .null, .null, .null]))] := hD
  refine lv_dup hx hb dL_law_3 rfl ?_
  have hPc := hP.sub (ws' := [(q0, .inr (8, [.null, .null, .null, .null, .null, .null, .null, .null, .null, .null, .null]))]) [0] rfl
  have hDc := hD.sub (ws' := [(q0, .inr (8, [.null, .null, .null, .null, .null, .null, .null, .null, .null, .null, .null]))]) [0] (by decide) rfl
  have hFc := va_free (wc := [(q0, .inr (8, [.null, .null, .null, .null, .null, .null, .null, .null, .null, .null, .null]))]) hD hS hA [0] rfl
  refine va_callv (va_runI (As := []) (rest := [.ref q0]) ⟨hx, hb, hml, hown, htg⟩ (n_X8_init l D cI cL cZ q0 H.size) (⟨callB_of (ws' := tblG) 0 htg (wsK_good (K := (yX8_init, cX8_init, 1, none, { frames := 0, cells := 0, slots := 0, locals := 0 })) (tc_1 18 rfl rfl)) rfl rfl rfl (htg (.initialized RX8) (tc_1 1 rfl rfl)) (htg (.methodLink RL 9 yX8_init) (tc_1 16 rfl rfl)) ⟨by decide +kernel, by decide +kernel, by decide +kernel⟩ ⟨Nat.le_of_ble_eq_true rfl, Nat.le_of_ble_eq_true rfl⟩, rfl, (htg (.instanceMethod yX8_init) (tc_1 17 rfl rfl))⟩) ⟨fun a U g mk q => by obtain ⟨q0, q1, qP, qK, qD, qN⟩ := q; exact ⟨q0, q1, qP, va_K.moved (u := U) (U := U.calling g mk a) (Vm.Alike.refl U.vm) qK, qD, fun w hw => va_Nw.same (u := U) (nestI_tab w hw) rfl (qN w hw)⟩, fun U hU hW => ⟨rfl, by rw [hU], by rw [hU]; exact hPc, va_K.moved hW.alike hK, hDc.weaken (fun _ _ _ _ => trivial), NI.warm hW hNI⟩⟩ rfl rfl hl.1 rfl (lv_room (Nat.le_of_ble_eq_true rfl)) dL_law_4 ⟨Nat.le_of_ble_eq_true rfl, Nat.le_of_ble_eq_true rfl⟩) hS (fun q _ h => hFc q h) hFc (fun u8 t H1 locs ht hvm hw hB hz1 hk1 hS => ?_)
  obtain ⟨hP1, hD1⟩ := hB
  rw [ht] at hP1
  obtain ⟨hP, hD⟩ := va_join (wr := []) (w1 := [(q0, .inr (8, [.ref (u8 1), .ref (u8 10), .ref (u8 11), .ref (u8 12), .ref (u8 2), .ref (u8 3), .ref (u8 4), .ref (u8 5), .ref (u8 6), .ref (u8 7), .ref (u8 8)])), ((u8 1), .inr (3, [.ref (u8 13), .int (Int32.ofInt 0), .int (Int32.ofInt (-1)), .int (Int32.ofInt 0), .int (Int32.ofInt 0), .ref (u8 14), .ref (u8 15), .ref (u8 16), .int (Int32.ofInt 0)])), ((u8 13), aI cI 13 60), ((u8 14), aI cI 14 16), ((u8 15), aI cI 15 4), ((u8 16), aI cI 16 3), ((u8 10), aI cI 10 4), ((u8 11), aI cI 11 4), ((u8 12), aI cI 12 5), ((u8 2), .inr (1, [.ref (u8 1), .ref (u8 10), .ref (u8 11), .int (Int32.ofInt 0), .int (Int32.ofInt 0), .int (Int32.ofInt 0), .int (Int32.ofInt 0), .int (Int32.ofInt 0), .int (Int32.ofInt 0), .ref (u8 17), .ref (u8 18), .ref (u8 19), .ref (u8 20)])), ((u8 17), aI cI 17 16), ((u8 18), aI cI 18 4), ((u8 19), aI cI 19 4), ((u8 20), aI cI 20 4), ((u8 3), .inr (0, [.ref (u8 2), .ref (u8 21), .ref (u8 22), .ref (u8 23), .ref (u8 24), .long (Int64.ofInt 0), .ref (u8 25)])), ((u8 21), aL cL 21 16), ((u8 22), aL cL 22 60), ((u8 23), aL cL 23 20), ((u8 24), aL cL 24 4), ((u8 25), aL cL 25 4), ((u8 4), .inr (4, [.ref (u8 2), .ref (u8 3), .long (Int64.ofInt 0), .int (Int32.ofInt 0), .int (Int32.ofInt 0), .int (Int32.ofInt 0), .ref (u8 26), .ref (u8 27), .ref (u8 28), .ref (u8 29), .ref (u8 30)])), ((u8 26), aI cI 26 4), ((u8 27), aI cI 27 4), ((u8 28), aI cI 28 4), ((u8 29), aI cI 29 4), ((u8 30), aI cI 30 4), ((u8 5), .inr (2, [.int (Int32.ofInt 0)])), ((u8 6), .inr (6, [.long (Int64.ofInt 0), .long (Int64.ofInt 1)])), ((u8 7), .inr (5, [.int (Int32.ofInt 0), .ref (u8 31), .ref (u8 32), .ref (u8 33), .ref (u8 34), .ref (u8 35)])), ((u8 31), aI cI 31 60), ((u8 32), aI cI 32 60), ((u8 33), aI cI 33 60), ((u8 34), aI cI 34 60), ((u8 35), aI cI 35 60), ((u8 8), .inr (7, [.int (Int32.ofInt 0), .ref (u8 36), .ref (u8 37), .ref (u8 38)])), ((u8 36), aI cI 36 4), ((u8 37), aI cI 37 4), ((u8 38), aI cI 38 240)]) hP hD [0] [] rfl rfl (by decide) (by decide) hk1 hFc hP1 hD1
  generalize H1 = H at hP hS ⊢
  have hP : va_P D classes [(q0, .inr (8, [.ref (u8 1), .ref (u8 10), .ref (u8 11), .ref (u8 12), .ref (u8 2), .ref (u8 3), .ref (u8 4), .ref (u8 5), .ref (u8 6), .ref (u8 7), .ref (u8 8)])), ((u8 1), .inr (3, [.ref (u8 13), .int (Int32.ofInt 0), .int (Int32.ofInt (-1)), .int (Int32.ofInt 0), .int (Int32.ofInt 0), .ref (u8 14), .ref (u8 15), .ref (u8 16), .int (Int32.ofInt 0)])), ((u8 13), aI cI 13 60), ((u8 14), aI cI 14 16), ((u8 15), aI cI 15 4), ((u8 16), aI cI 16 3), ((u8 10), aI cI 10 4), ((u8 11), aI cI 11 4), ((u8 12), aI cI 12 5), ((u8 2), .inr (1, [.ref (u8 1), .ref (u8 10), .ref (u8 11), .int (Int32.ofInt 0), .int (Int32.ofInt 0), .int (Int32.ofInt 0), .int (Int32.ofInt 0), .int (Int32.ofInt 0), .int (Int32.ofInt 0), .ref (u8 17), .ref (u8 18), .ref (u8 19), .ref (u8 20)])), ((u8 17), aI cI 17 16), ((u8 18), aI cI 18 4), ((u8 19), aI cI 19 4), ((u8 20), aI cI 20 4), ((u8 3), .inr (0, [.ref (u8 2), .ref (u8 21), .ref (u8 22), .ref (u8 23), .ref (u8 24), .long (Int64.ofInt 0), .ref (u8 25)])), ((u8 21), aL cL 21 16), ((u8 22), aL cL 22 60), ((u8 23), aL cL 23 20), ((u8 24), aL cL 24 4), ((u8 25), aL cL 25 4), ((u8 4), .inr (4, [.ref (u8 2), .ref (u8 3), .long (Int64.ofInt 0), .int (Int32.ofInt 0), .int (Int32.ofInt 0), .int (Int32.ofInt 0), .ref (u8 26), .ref (u8 27), .ref (u8 28), .ref (u8 29), .ref (u8 30)])), ((u8 26), aI cI 26 4), ((u8 27), aI cI 27 4), ((u8 28), aI cI 28 4), ((u8 29), aI cI 29 4), ((u8 30), aI cI 30 4), ((u8 5), .inr (2, [.int (Int32.ofInt 0)])), ((u8 6), .inr (6, [.long (Int64.ofInt 0), .long (Int64.ofInt 1)])), ((u8 7), .inr (5, [.int (Int32.ofInt 0), .ref (u8 31), .ref (u8 32), .ref (u8 33), .ref (u8 34), .ref (u8 35)])), ((u8 31), aI cI 31 60), ((u8 32), aI cI 32 60), ((u8 33), aI cI 33 60), ((u8 34), aI cI 34 60), ((u8 35), aI cI 35 60), ((u8 8), .inr (7, [.int (Int32.ofInt 0), .ref (u8 36), .ref (u8 37), .ref (u8 38)])), ((u8 36), aI cI 36 4), ((u8 37), aI cI 37 4), ((u8 38), aI cI 38 240)] H := hP
  have hD : va_D (fun q : Nat => s.heap.size ≤ q) [(q0, .inr (8, [.ref (u8 1), .ref (u8 10), .ref (u8 11), .ref (u8 12), .ref (u8 2), .ref (u8 3), .ref (u8 4), .ref (u8 5), .ref (u8 6), .ref (u8 7), .ref (u8 8)])), ((u8 1), .inr (3, [.ref (u8 13), .int (Int32.ofInt 0), .int (Int32.ofInt (-1)), .int (Int32.ofInt 0), .int (Int32.ofInt 0), .ref (u8 14), .ref (u8 15), .ref (u8 16), .int (Int32.ofInt 0)])), ((u8 13), aI cI 13 60), ((u8 14), aI cI 14 16), ((u8 15), aI cI 15 4), ((u8 16), aI cI 16 3), ((u8 10), aI cI 10 4), ((u8 11), aI cI 11 4), ((u8 12), aI cI 12 5), ((u8 2), .inr (1, [.ref (u8 1), .ref (u8 10), .ref (u8 11), .int (Int32.ofInt 0), .int (Int32.ofInt 0), .int (Int32.ofInt 0), .int (Int32.ofInt 0), .int (Int32.ofInt 0), .int (Int32.ofInt 0), .ref (u8 17), .ref (u8 18), .ref (u8 19), .ref (u8 20)])), ((u8 17), aI cI 17 16), ((u8 18), aI cI 18 4), ((u8 19), aI cI 19 4), ((u8 20), aI cI 20 4), ((u8 3), .inr (0, [.ref (u8 2), .ref (u8 21), .ref (u8 22), .ref (u8 23), .ref (u8 24), .long (Int64.ofInt 0), .ref (u8 25)])), ((u8 21), aL cL 21 16), ((u8 22), aL cL 22 60), ((u8 23), aL cL 23 20), ((u8 24), aL cL 24 4), ((u8 25), aL cL 25 4), ((u8 4), .inr (4, [.ref (u8 2), .ref (u8 3), .long (Int64.ofInt 0), .int (Int32.ofInt 0), .int (Int32.ofInt 0), .int (Int32.ofInt 0), .ref (u8 26), .ref (u8 27), .ref (u8 28), .ref (u8 29), .ref (u8 30)])), ((u8 26), aI cI 26 4), ((u8 27), aI cI 27 4), ((u8 28), aI cI 28 4), ((u8 29), aI cI 29 4), ((u8 30), aI cI 30 4), ((u8 5), .inr (2, [.int (Int32.ofInt 0)])), ((u8 6), .inr (6, [.long (Int64.ofInt 0), .long (Int64.ofInt 1)])), ((u8 7), .inr (5, [.int (Int32.ofInt 0), .ref (u8 31), .ref (u8 32), .ref (u8 33), .ref (u8 34), .ref (u8 35)])), ((u8 31), aI cI 31 60), ((u8 32), aI cI 32 60), ((u8 33), aI cI 33 60), ((u8 34), aI cI 34 60), ((u8 35), aI cI 35 60), ((u8 8), .inr (7, [.int (Int32.ofInt 0), .ref (u8 36), .ref (u8 37), .ref (u8 38)])), ((u8 36), aI cI 36 4), ((u8 37), aI cI 37 4), ((u8 38), aI cI 38 240)] := hD
  refine lv_astore_n (lv' := [(1, .ref q0), (0, .ref b)]) hx hb dL_law_7 rfl hl (by decide) rfl (fun ls hl => ?_)
  refine va_new (ci := 9) (fs := [.null, .null, .null, .null, .int (Int32.ofInt 0), .null, .int (Int32.ofInt 0), .int (Int32.ofInt 0), .int (Int32.ofInt 0), .null, .int (Int32.ofInt 0), .null, .null, .null, .null, .null, .null, .null, .null, .int (Int32.ofInt 0), .int (Int32.ofInt 0), .int (Int32.ofInt 0), .int (Int32.ofInt 0), .int (Int32.ofInt 0), .null, .null, .int (Int32.ofInt 0), .int (Int32.ofInt 0), .long (Int64.ofInt 0), .null, .null, .null, .int (Int32.ofInt 0), .int (Int32.ofInt 0), .null, .null, .null, .null, .null, .null]) (C := RX9) (T := TX9) (N := 40) hx hb htg inK9 tyX9 tyX9_ok hown (htg (.classLink RL 10 RX9) (tc_4 149 rfl rfl)) (htg (.instantiable RX9 40) (tc_4 150 rfl rfl)) (htg (.initialized RX9) (tc_1 10 rfl rfl)) hK hP hD hS hA rfl (fun j hj => by rcases (show j = 0 ∨ j = 1 ∨ j = 2 ∨ j = 3 ∨ j = 4 ∨ j = 5 ∨ j = 6 ∨ j = 7 ∨ j = 8 ∨ j = 9 ∨ j = 10 ∨ j = 11 ∨ j = 12 ∨ j = 13 ∨ j = 14 ∨ j = 15 ∨ j = 16 ∨ j = 17 ∨ j = 18 ∨ j = 19 ∨ j = 20 ∨ j = 21 ∨ j = 22 ∨ j = 23 ∨ j = 24 ∨ j = 25 ∨ j = 26 ∨ j = 27 ∨ j = 28 ∨ j = 29 ∨ j = 30 ∨ j = 31 ∨ j = 32 ∨ j = 33 ∨ j = 34 ∨ j = 35 ∨ j = 36 ∨ j = 37 ∨ j = 38 ∨ j = 39 by omega) with rfl | rfl | rfl | rfl | rfl | rfl | rfl | rfl | rfl | rfl | rfl | rfl | rfl | rfl | rfl | rfl | rfl | rfl | rfl | rfl | rfl | rfl | rfl | rfl | rfl | rfl | rfl | rfl | rfl | rfl | rfl | rfl | rfl | rfl | rfl | rfl | rfl | rfl | rfl | rfl <;> rfl) (Nat.le_of_ble_eq_true rfl) (Nat.le_of_ble_eq_true rfl) dL_law_8 (fun q9 H hP hD hS => ?_)
  have hP : va_P D classes [(q0, .inr (8, [.ref (u8 1), .ref (u8 10), .ref (u8 11), .ref (u8 12), .ref (u8 2), .ref (u8 3), .ref (u8 4), .ref (u8 5), .ref (u8 6), .ref (u8 7), .ref (u8 8)])), ((u8 1), .inr (3, [.ref (u8 13), .int (Int32.ofInt 0), .int (Int32.ofInt (-1)), .int (Int32.ofInt 0), .int (Int32.ofInt 0), .ref (u8 14), .ref (u8 15), .ref (u8 16), .int (Int32.ofInt 0)])), ((u8 13), aI cI 13 60), ((u8 14), aI cI 14 16), ((u8 15), aI cI 15 4), ((u8 16), aI cI 16 3), ((u8 10), aI cI 10 4), ((u8 11), aI cI 11 4), ((u8 12), aI cI 12 5), ((u8 2), .inr (1, [.ref (u8 1), .ref (u8 10), .ref (u8 11), .int (Int32.ofInt 0), .int (Int32.ofInt 0), .int (Int32.ofInt 0), .int (Int32.ofInt 0), .int (Int32.ofInt 0), .int (Int32.ofInt 0), .ref (u8 17), .ref (u8 18), .ref (u8 19), .ref (u8 20)])), ((u8 17), aI cI 17 16), ((u8 18), aI cI 18 4), ((u8 19), aI cI 19 4), ((u8 20), aI cI 20 4), ((u8 3), .inr (0, [.ref (u8 2), .ref (u8 21), .ref (u8 22), .ref (u8 23), .ref (u8 24), .long (Int64.ofInt 0), .ref (u8 25)])), ((u8 21), aL cL 21 16), ((u8 22), aL cL 22 60), ((u8 23), aL cL 23 20), ((u8 24), aL cL 24 4), ((u8 25), aL cL 25 4), ((u8 4), .inr (4, [.ref (u8 2), .ref (u8 3), .long (Int64.ofInt 0), .int (Int32.ofInt 0), .int (Int32.ofInt 0), .int (Int32.ofInt 0), .ref (u8 26), .ref (u8 27), .ref (u8 28), .ref (u8 29), .ref (u8 30)])), ((u8 26), aI cI 26 4), ((u8 27), aI cI 27 4), ((u8 28), aI cI 28 4), ((u8 29), aI cI 29 4), ((u8 30), aI cI 30 4), ((u8 5), .inr (2, [.int (Int32.ofInt 0)])), ((u8 6), .inr (6, [.long (Int64.ofInt 0), .long (Int64.ofInt 1)])), ((u8 7), .inr (5, [.int (Int32.ofInt 0), .ref (u8 31), .ref (u8 32), .ref (u8 33), .ref (u8 34), .ref (u8 35)])), ((u8 31), aI cI 31 60), ((u8 32), aI cI 32 60), ((u8 33), aI cI 33 60), ((u8 34), aI cI 34 60), ((u8 35), aI cI 35 60), ((u8 8), .inr (7, [.int (Int32.ofInt 0), .ref (u8 36), .ref (u8 37), .ref (u8 38)])), ((u8 36), aI cI 36 4), ((u8 37), aI cI 37 4), ((u8 38), aI cI 38 240), (q9, .inr (9, [.null, .null, .null, .null, .int (Int32.ofInt 0), .null, .int (Int32.ofInt 0), .int (Int32.ofInt 0), .int (Int32.ofInt 0), .null, .int (Int32.ofInt 0), .null, .null, .null, .null, .null, .null, .null, .null, .int (Int32.ofInt 0), .int (Int32.ofInt 0), .int (Int32.ofInt 0), .int (Int32.ofInt 0), .int (Int32.ofInt 0), .null, .null, .int (Int32.ofInt 0), .int (Int32.ofInt 0), .long (Int64.ofInt 0), .null, .null, .null, .int (Int32.ofInt 0), .int (Int32.ofInt 0), .null, .null, .null, .null, .null, .null]))] H := hP
  have hD : va_D (fun q : Nat => s.heap.size ≤ q) [(q0, .inr (8, [.ref (u8 1), .ref (u8 10), .ref (u8 11), .ref (u8 12), .ref (u8 2), .ref (u8 3), .ref (u8 4), .ref (u8 5), .ref (u8 6), .ref (u8 7), .ref (u8 8)])), ((u8 1), .inr (3, [.ref (u8 13), .int (Int32.ofInt 0), .int (Int32.ofInt (-1)), .int (Int32.ofInt 0), .int (Int32.ofInt 0), .ref (u8 14), .ref (u8 15), .ref (u8 16), .int (Int32.ofInt 0)])), ((u8 13), aI cI 13 60), ((u8 14), aI cI 14 16), ((u8 15), aI cI 15 4), ((u8 16), aI cI 16 3), ((u8 10), aI cI 10 4), ((u8 11), aI cI 11 4), ((u8 12), aI cI 12 5), ((u8 2), .inr (1, [.ref (u8 1), .ref (u8 10), .ref (u8 11), .int (Int32.ofInt 0), .int (Int32.ofInt 0), .int (Int32.ofInt 0), .int (Int32.ofInt 0), .int (Int32.ofInt 0), .int (Int32.ofInt 0), .ref (u8 17), .ref (u8 18), .ref (u8 19), .ref (u8 20)])), ((u8 17), aI cI 17 16), ((u8 18), aI cI 18 4), ((u8 19), aI cI 19 4), ((u8 20), aI cI 20 4), ((u8 3), .inr (0, [.ref (u8 2), .ref (u8 21), .ref (u8 22), .ref (u8 23), .ref (u8 24), .long (Int64.ofInt 0), .ref (u8 25)])), ((u8 21), aL cL 21 16), ((u8 22), aL cL 22 60), ((u8 23), aL cL 23 20), ((u8 24), aL cL 24 4), ((u8 25), aL cL 25 4), ((u8 4), .inr (4, [.ref (u8 2), .ref (u8 3), .long (Int64.ofInt 0), .int (Int32.ofInt 0), .int (Int32.ofInt 0), .int (Int32.ofInt 0), .ref (u8 26), .ref (u8 27), .ref (u8 28), .ref (u8 29), .ref (u8 30)])), ((u8 26), aI cI 26 4), ((u8 27), aI cI 27 4), ((u8 28), aI cI 28 4), ((u8 29), aI cI 29 4), ((u8 30), aI cI 30 4), ((u8 5), .inr (2, [.int (Int32.ofInt 0)])), ((u8 6), .inr (6, [.long (Int64.ofInt 0), .long (Int64.ofInt 1)])), ((u8 7), .inr (5, [.int (Int32.ofInt 0), .ref (u8 31), .ref (u8 32), .ref (u8 33), .ref (u8 34), .ref (u8 35)])), ((u8 31), aI cI 31 60), ((u8 32), aI cI 32 60), ((u8 33), aI cI 33 60), ((u8 34), aI cI 34 60), ((u8 35), aI cI 35 60), ((u8 8), .inr (7, [.int (Int32.ofInt 0), .ref (u8 36), .ref (u8 37), .ref (u8 38)])), ((u8 36), aI cI 36 4), ((u8 37), aI cI 37 4), ((u8 38), aI cI 38 240), (q9, .inr (9, [.null, .null, .null, .null, .int (Int32.ofInt 0), .null, .int (Int32.ofInt 0), .int (Int32.ofInt 0), .int (Int32.ofInt 0), .null, .int (Int32.ofInt 0), .null, .null, .null, .null, .null, .null, .null, .null, .int (Int32.ofInt 0), .int (Int32.ofInt 0), .int (Int32.ofInt 0), .int (Int32.ofInt 0), .int (Int32.ofInt 0), .null, .null, .int (Int32.ofInt 0), .int (Int32.ofInt 0), .long (Int64.ofInt 0), .null, .null, .null, .int (Int32.ofInt 0), .int (Int32.ofInt 0), .null, .null, .null, .null, .null, .null]))] := hD
  refine lv_dup hx hb dL_law_11 rfl ?_
  have hPc := hP.sub (ws' := [(q9, .inr (9, [.null, .null, .null, .null, .int (Int32.ofInt 0), .null, .int (Int32.ofInt 0), .int (Int32.ofInt 0), .int (Int32.ofInt 0), .null, .int (Int32.ofInt 0), .null, .null, .null, .null, .null, .null, .null, .null, .int (Int32.ofInt 0), .int (Int32.ofInt 0), .int (Int32.ofInt 0), .int (Int32.ofInt 0), .int (Int32.ofInt 0), .null, .null, .int (Int32.ofInt 0), .int (Int32.ofInt 0), .long (Int64.ofInt 0), .null, .null, .null, .int (Int32.ofInt 0), .int (Int32.ofInt 0), .null, .null, .null, .null, .null, .null]))]) [38] rfl
  have hDc := hD.sub (ws' := [(q9, .inr (9, [.null, .null, .null, .null, .int (Int32.ofInt 0), .null, .int (Int32.ofInt 0), .int (Int32.ofInt 0), .int (Int32.ofInt 0), .null, .int (Int32.ofInt 0), .null, .null, .null, .null, .null, .null, .null, .null, .int (Int32.ofInt 0), .int (Int32.ofInt 0), .int (Int32.ofInt 0), .int (Int32.ofInt 0), .int (Int32.ofInt 0), .null, .null, .int (Int32.ofInt 0), .int (Int32.ofInt 0), .long (Int64.ofInt 0), .null, .null, .null, .int (Int32.ofInt 0), .int (Int32.ofInt 0), .null, .null, .null, .null, .null, .null]))]) [38] (by decide) rfl
  have hFc := va_free (wc := [(q9, .inr (9, [.null, .null, .null, .null, .int (Int32.ofInt 0), .null, .int (Int32.ofInt 0), .int (Int32.ofInt 0), .int (Int32.ofInt 0), .null, .int (Int32.ofInt 0), .null, .null, .null, .null, .null, .null, .null, .null, .int (Int32.ofInt 0), .int (Int32.ofInt 0), .int (Int32.ofInt 0), .int (Int32.ofInt 0), .int (Int32.ofInt 0), .null, .null, .int (Int32.ofInt 0), .int (Int32.ofInt 0), .long (Int64.ofInt 0), .null, .null, .null, .int (Int32.ofInt 0), .int (Int32.ofInt 0), .null, .null, .null, .null, .null, .null]))]) hD hS hA [38] rfl
  refine va_callv (va_runI (As := []) (rest := [.ref q9]) ⟨hx, hb, hml, hown, htg⟩ (n_X9_init l D cI cL cZ q9 H.size) (⟨callB_of (ws' := tblG) 0 htg (wsK_good (K := (yX9_init, cX9_init, 2, none, { frames := 0, cells := 0, slots := 0, locals := 0 })) (tc_4 153 rfl rfl)) rfl rfl rfl (htg (.initialized RX9) (tc_1 10 rfl rfl)) (htg (.methodLink RL 12 yX9_init) (tc_4 151 rfl rfl)) ⟨by decide +kernel, by decide +kernel, by decide +kernel⟩ ⟨Nat.le_of_ble_eq_true rfl, Nat.le_of_ble_eq_true rfl⟩, rfl, (htg (.instanceMethod yX9_init) (tc_4 152 rfl rfl))⟩) ⟨fun a U g mk q => by obtain ⟨q0, q1, qP, qK, qD⟩ := q; exact ⟨q0, q1, qP, va_K.moved (u := U) (U := U.calling g mk a) (Vm.Alike.refl U.vm) qK, qD⟩, fun U hU hW => ⟨rfl, by rw [hU], by rw [hU]; exact hPc, va_K.moved hW.alike hK, hDc.weaken (fun _ _ _ _ => trivial)⟩⟩ rfl rfl hl.1 rfl (lv_room (Nat.le_of_ble_eq_true rfl)) dL_law_12 ⟨Nat.le_of_ble_eq_true rfl, Nat.le_of_ble_eq_true rfl⟩) hS (fun q _ h => hFc q h) hFc (fun u9 t H1 locs ht hvm hw hB hz1 hk1 hS => ?_)
  obtain ⟨hP1, hD1⟩ := hB
  rw [ht] at hP1
  obtain ⟨hP, hD⟩ := va_join (wr := [(q0, .inr (8, [.ref (u8 1), .ref (u8 10), .ref (u8 11), .ref (u8 12), .ref (u8 2), .ref (u8 3), .ref (u8 4), .ref (u8 5), .ref (u8 6), .ref (u8 7), .ref (u8 8)])), ((u8 1), .inr (3, [.ref (u8 13), .int (Int32.ofInt 0), .int (Int32.ofInt (-1)), .int (Int32.ofInt 0), .int (Int32.ofInt 0), .ref (u8 14), .ref (u8 15), .ref (u8 16), .int (Int32.ofInt 0)])), ((u8 13), aI cI 13 60), ((u8 14), aI cI 14 16), ((u8 15), aI cI 15 4), ((u8 16), aI cI 16 3), ((u8 10), aI cI 10 4), ((u8 11), aI cI 11 4), ((u8 12), aI cI 12 5), ((u8 2), .inr (1, [.ref (u8 1), .ref (u8 10), .ref (u8 11), .int (Int32.ofInt 0), .int (Int32.ofInt 0), .int (Int32.ofInt 0), .int (Int32.ofInt 0), .int (Int32.ofInt 0), .int (Int32.ofInt 0), .ref (u8 17), .ref (u8 18), .ref (u8 19), .ref (u8 20)])), ((u8 17), aI cI 17 16), ((u8 18), aI cI 18 4), ((u8 19), aI cI 19 4), ((u8 20), aI cI 20 4), ((u8 3), .inr (0, [.ref (u8 2), .ref (u8 21), .ref (u8 22), .ref (u8 23), .ref (u8 24), .long (Int64.ofInt 0), .ref (u8 25)])), ((u8 21), aL cL 21 16), ((u8 22), aL cL 22 60), ((u8 23), aL cL 23 20), ((u8 24), aL cL 24 4), ((u8 25), aL cL 25 4), ((u8 4), .inr (4, [.ref (u8 2), .ref (u8 3), .long (Int64.ofInt 0), .int (Int32.ofInt 0), .int (Int32.ofInt 0), .int (Int32.ofInt 0), .ref (u8 26), .ref (u8 27), .ref (u8 28), .ref (u8 29), .ref (u8 30)])), ((u8 26), aI cI 26 4), ((u8 27), aI cI 27 4), ((u8 28), aI cI 28 4), ((u8 29), aI cI 29 4), ((u8 30), aI cI 30 4), ((u8 5), .inr (2, [.int (Int32.ofInt 0)])), ((u8 6), .inr (6, [.long (Int64.ofInt 0), .long (Int64.ofInt 1)])), ((u8 7), .inr (5, [.int (Int32.ofInt 0), .ref (u8 31), .ref (u8 32), .ref (u8 33), .ref (u8 34), .ref (u8 35)])), ((u8 31), aI cI 31 60), ((u8 32), aI cI 32 60), ((u8 33), aI cI 33 60), ((u8 34), aI cI 34 60), ((u8 35), aI cI 35 60), ((u8 8), .inr (7, [.int (Int32.ofInt 0), .ref (u8 36), .ref (u8 37), .ref (u8 38)])), ((u8 36), aI cI 36 4), ((u8 37), aI cI 37 4), ((u8 38), aI cI 38 240)]) (w1 := [(q9, .inr (9, [.ref (u9 39), .ref (u9 40), .ref (u9 41), .ref (u9 42), .int (Int32.ofInt 0), .ref (u9 43), .int (Int32.ofInt 0), .int (Int32.ofInt 0), .int (Int32.ofInt 0), .ref (u9 44), .int (Int32.ofInt 0), .ref (u9 45), .ref (u9 46), .ref (u9 47), .ref (u9 48), .ref (u9 49), .ref (u9 50), .ref (u9 51), .ref (u9 52), .int (Int32.ofInt 0), .int (Int32.ofInt 0), .int (Int32.ofInt 0), .int (Int32.ofInt 0), .int (Int32.ofInt 0), .ref (u9 53), .ref (u9 54), .int (Int32.ofInt 0), .int (Int32.ofInt 0), .long (Int64.ofInt 0), .ref (u9 55), .ref (u9 56), .ref (u9 57), .int (Int32.ofInt 0), .int (Int32.ofInt 0), .ref (u9 58), .ref (u9 59), .ref (u9 60), .ref (u9 61), .ref (u9 62), .ref (u9 63)])), ((u9 39), aI cI 39 4), ((u9 40), aI cI 40 4), ((u9 41), aI cI 41 240), ((u9 42), aI cI 42 60), ((u9 43), aI cI 43 60), ((u9 44), aI cI 44 16), ((u9 45), aI cI 45 4), ((u9 46), aI cI 46 3), ((u9 47), aI cI 47 4), ((u9 48), aI cI 48 4), ((u9 49), aI cI 49 5), ((u9 50), aI cI 50 5), ((u9 51), aI cI 51 5), ((u9 52), aI cI 52 4), ((u9 53), aL cL 53 50), ((u9 54), aL cL 54 50), ((u9 55), aI cI 55 4), ((u9 56), aI cI 56 4), ((u9 57), aI cI 57 5), ((u9 58), aI cI 58 60), ((u9 59), aI cI 59 60), ((u9 60), aI cI 60 60), ((u9 61), aI cZ 61 60), ((u9 62), aI cI 62 60), ((u9 63), aI cI 63 8)]) hP hD [38] [0, 1, 2, 3, 4, 5, 6, 7, 8, 9, 10, 11, 12, 13, 14, 15, 16, 17, 18, 19, 20, 21, 22, 23, 24, 25, 26, 27, 28, 29, 30, 31, 32, 33, 34, 35, 36, 37] rfl rfl (by decide) (by decide) hk1 hFc hP1 hD1
  generalize H1 = H at hP hS ⊢
  have hP : va_P D classes [(q0, .inr (8, [.ref (u8 1), .ref (u8 10), .ref (u8 11), .ref (u8 12), .ref (u8 2), .ref (u8 3), .ref (u8 4), .ref (u8 5), .ref (u8 6), .ref (u8 7), .ref (u8 8)])), ((u8 1), .inr (3, [.ref (u8 13), .int (Int32.ofInt 0), .int (Int32.ofInt (-1)), .int (Int32.ofInt 0), .int (Int32.ofInt 0), .ref (u8 14), .ref (u8 15), .ref (u8 16), .int (Int32.ofInt 0)])), ((u8 13), aI cI 13 60), ((u8 14), aI cI 14 16), ((u8 15), aI cI 15 4), ((u8 16), aI cI 16 3), ((u8 10), aI cI 10 4), ((u8 11), aI cI 11 4), ((u8 12), aI cI 12 5), ((u8 2), .inr (1, [.ref (u8 1), .ref (u8 10), .ref (u8 11), .int (Int32.ofInt 0), .int (Int32.ofInt 0), .int (Int32.ofInt 0), .int (Int32.ofInt 0), .int (Int32.ofInt 0), .int (Int32.ofInt 0), .ref (u8 17), .ref (u8 18), .ref (u8 19), .ref (u8 20)])), ((u8 17), aI cI 17 16), ((u8 18), aI cI 18 4), ((u8 19), aI cI 19 4), ((u8 20), aI cI 20 4), ((u8 3), .inr (0, [.ref (u8 2), .ref (u8 21), .ref (u8 22), .ref (u8 23), .ref (u8 24), .long (Int64.ofInt 0), .ref (u8 25)])), ((u8 21), aL cL 21 16), ((u8 22), aL cL 22 60), ((u8 23), aL cL 23 20), ((u8 24), aL cL 24 4), ((u8 25), aL cL 25 4), ((u8 4), .inr (4, [.ref (u8 2), .ref (u8 3), .long (Int64.ofInt 0), .int (Int32.ofInt 0), .int (Int32.ofInt 0), .int (Int32.ofInt 0), .ref (u8 26), .ref (u8 27), .ref (u8 28), .ref (u8 29), .ref (u8 30)])), ((u8 26), aI cI 26 4), ((u8 27), aI cI 27 4), ((u8 28), aI cI 28 4), ((u8 29), aI cI 29 4), ((u8 30), aI cI 30 4), ((u8 5), .inr (2, [.int (Int32.ofInt 0)])), ((u8 6), .inr (6, [.long (Int64.ofInt 0), .long (Int64.ofInt 1)])), ((u8 7), .inr (5, [.int (Int32.ofInt 0), .ref (u8 31), .ref (u8 32), .ref (u8 33), .ref (u8 34), .ref (u8 35)])), ((u8 31), aI cI 31 60), ((u8 32), aI cI 32 60), ((u8 33), aI cI 33 60), ((u8 34), aI cI 34 60), ((u8 35), aI cI 35 60), ((u8 8), .inr (7, [.int (Int32.ofInt 0), .ref (u8 36), .ref (u8 37), .ref (u8 38)])), ((u8 36), aI cI 36 4), ((u8 37), aI cI 37 4), ((u8 38), aI cI 38 240), (q9, .inr (9, [.ref (u9 39), .ref (u9 40), .ref (u9 41), .ref (u9 42), .int (Int32.ofInt 0), .ref (u9 43), .int (Int32.ofInt 0), .int (Int32.ofInt 0), .int (Int32.ofInt 0), .ref (u9 44), .int (Int32.ofInt 0), .ref (u9 45), .ref (u9 46), .ref (u9 47), .ref (u9 48), .ref (u9 49), .ref (u9 50), .ref (u9 51), .ref (u9 52), .int (Int32.ofInt 0), .int (Int32.ofInt 0), .int (Int32.ofInt 0), .int (Int32.ofInt 0), .int (Int32.ofInt 0), .ref (u9 53), .ref (u9 54), .int (Int32.ofInt 0), .int (Int32.ofInt 0), .long (Int64.ofInt 0), .ref (u9 55), .ref (u9 56), .ref (u9 57), .int (Int32.ofInt 0), .int (Int32.ofInt 0), .ref (u9 58), .ref (u9 59), .ref (u9 60), .ref (u9 61), .ref (u9 62), .ref (u9 63)])), ((u9 39), aI cI 39 4), ((u9 40), aI cI 40 4), ((u9 41), aI cI 41 240), ((u9 42), aI cI 42 60), ((u9 43), aI cI 43 60), ((u9 44), aI cI 44 16), ((u9 45), aI cI 45 4), ((u9 46), aI cI 46 3), ((u9 47), aI cI 47 4), ((u9 48), aI cI 48 4), ((u9 49), aI cI 49 5), ((u9 50), aI cI 50 5), ((u9 51), aI cI 51 5), ((u9 52), aI cI 52 4), ((u9 53), aL cL 53 50), ((u9 54), aL cL 54 50), ((u9 55), aI cI 55 4), ((u9 56), aI cI 56 4), ((u9 57), aI cI 57 5), ((u9 58), aI cI 58 60), ((u9 59), aI cI 59 60), ((u9 60), aI cI 60 60), ((u9 61), aI cZ 61 60), ((u9 62), aI cI 62 60), ((u9 63), aI cI 63 8)] H := hP
  have hD : va_D (fun q : Nat => s.heap.size ≤ q) [(q0, .inr (8, [.ref (u8 1), .ref (u8 10), .ref (u8 11), .ref (u8 12), .ref (u8 2), .ref (u8 3), .ref (u8 4), .ref (u8 5), .ref (u8 6), .ref (u8 7), .ref (u8 8)])), ((u8 1), .inr (3, [.ref (u8 13), .int (Int32.ofInt 0), .int (Int32.ofInt (-1)), .int (Int32.ofInt 0), .int (Int32.ofInt 0), .ref (u8 14), .ref (u8 15), .ref (u8 16), .int (Int32.ofInt 0)])), ((u8 13), aI cI 13 60), ((u8 14), aI cI 14 16), ((u8 15), aI cI 15 4), ((u8 16), aI cI 16 3), ((u8 10), aI cI 10 4), ((u8 11), aI cI 11 4), ((u8 12), aI cI 12 5), ((u8 2), .inr (1, [.ref (u8 1), .ref (u8 10), .ref (u8 11), .int (Int32.ofInt 0), .int (Int32.ofInt 0), .int (Int32.ofInt 0), .int (Int32.ofInt 0), .int (Int32.ofInt 0), .int (Int32.ofInt 0), .ref (u8 17), .ref (u8 18), .ref (u8 19), .ref (u8 20)])), ((u8 17), aI cI 17 16), ((u8 18), aI cI 18 4), ((u8 19), aI cI 19 4), ((u8 20), aI cI 20 4), ((u8 3), .inr (0, [.ref (u8 2), .ref (u8 21), .ref (u8 22), .ref (u8 23), .ref (u8 24), .long (Int64.ofInt 0), .ref (u8 25)])), ((u8 21), aL cL 21 16), ((u8 22), aL cL 22 60), ((u8 23), aL cL 23 20), ((u8 24), aL cL 24 4), ((u8 25), aL cL 25 4), ((u8 4), .inr (4, [.ref (u8 2), .ref (u8 3), .long (Int64.ofInt 0), .int (Int32.ofInt 0), .int (Int32.ofInt 0), .int (Int32.ofInt 0), .ref (u8 26), .ref (u8 27), .ref (u8 28), .ref (u8 29), .ref (u8 30)])), ((u8 26), aI cI 26 4), ((u8 27), aI cI 27 4), ((u8 28), aI cI 28 4), ((u8 29), aI cI 29 4), ((u8 30), aI cI 30 4), ((u8 5), .inr (2, [.int (Int32.ofInt 0)])), ((u8 6), .inr (6, [.long (Int64.ofInt 0), .long (Int64.ofInt 1)])), ((u8 7), .inr (5, [.int (Int32.ofInt 0), .ref (u8 31), .ref (u8 32), .ref (u8 33), .ref (u8 34), .ref (u8 35)])), ((u8 31), aI cI 31 60), ((u8 32), aI cI 32 60), ((u8 33), aI cI 33 60), ((u8 34), aI cI 34 60), ((u8 35), aI cI 35 60), ((u8 8), .inr (7, [.int (Int32.ofInt 0), .ref (u8 36), .ref (u8 37), .ref (u8 38)])), ((u8 36), aI cI 36 4), ((u8 37), aI cI 37 4), ((u8 38), aI cI 38 240), (q9, .inr (9, [.ref (u9 39), .ref (u9 40), .ref (u9 41), .ref (u9 42), .int (Int32.ofInt 0), .ref (u9 43), .int (Int32.ofInt 0), .int (Int32.ofInt 0), .int (Int32.ofInt 0), .ref (u9 44), .int (Int32.ofInt 0), .ref (u9 45), .ref (u9 46), .ref (u9 47), .ref (u9 48), .ref (u9 49), .ref (u9 50), .ref (u9 51), .ref (u9 52), .int (Int32.ofInt 0), .int (Int32.ofInt 0), .int (Int32.ofInt 0), .int (Int32.ofInt 0), .int (Int32.ofInt 0), .ref (u9 53), .ref (u9 54), .int (Int32.ofInt 0), .int (Int32.ofInt 0), .long (Int64.ofInt 0), .ref (u9 55), .ref (u9 56), .ref (u9 57), .int (Int32.ofInt 0), .int (Int32.ofInt 0), .ref (u9 58), .ref (u9 59), .ref (u9 60), .ref (u9 61), .ref (u9 62), .ref (u9 63)])), ((u9 39), aI cI 39 4), ((u9 40), aI cI 40 4), ((u9 41), aI cI 41 240), ((u9 42), aI cI 42 60), ((u9 43), aI cI 43 60), ((u9 44), aI cI 44 16), ((u9 45), aI cI 45 4), ((u9 46), aI cI 46 3), ((u9 47), aI cI 47 4), ((u9 48), aI cI 48 4), ((u9 49), aI cI 49 5), ((u9 50), aI cI 50 5), ((u9 51), aI cI 51 5), ((u9 52), aI cI 52 4), ((u9 53), aL cL 53 50), ((u9 54), aL cL 54 50), ((u9 55), aI cI 55 4), ((u9 56), aI cI 56 4), ((u9 57), aI cI 57 5), ((u9 58), aI cI 58 60), ((u9 59), aI cI 59 60), ((u9 60), aI cI 60 60), ((u9 61), aI cZ 61 60), ((u9 62), aI cI 62 60), ((u9 63), aI cI 63 8)] := hD
  refine lv_astore_n (lv' := [(2, .ref q9), (1, .ref q0), (0, .ref b)]) hx hb dL_law_15 rfl hl (by decide) rfl (fun ls hl => ?_)
  refine lv_iconst (v := Int32.ofInt 0) hx hb dL_law_16 rfl ?_
  refine lv_istore_n (lv' := [(3, .int (Int32.ofInt 0)), (2, .ref q9), (1, .ref q0), (0, .ref b)]) hx hb dL_law_17 rfl hl (by decide) rfl (fun ls hl => ?_)
  have hP : va_P D classes (ws64 cI cL cZ q0 q9 u8 u9) H := hP
  have hD : va_D (fun q : Nat => s.heap.size ≤ q) (ws64 cI cL cZ q0 q9 u8 u9) := hD
  have hpos : ∀ k : Nat, k < 64 → ∃ e : va_E, (ws64 cI cL cZ q0 q9 u8 u9)[pmL.getD k 0]? = some (adF q0 q9 u8 u9 tO tC b k, e) := fun k hk => by
    have h1 : k < lay.length := by rw [lay_len]; exact hk
    exact ⟨_, ws64_at (D := D) k _ hk (List.getElem?_eq_getElem h1)⟩
  have hinj : gInj (D, adF q0 q9 u8 u9 tO tC b, (cI, cL, cZ)) := fun i j hi hj h => by
    obtain ⟨e1, h1⟩ := hpos i hi
    obtain ⟨e2, h2⟩ := hpos j hj
    exact pm_inj i j hi hj (hD.1 _ _ _ _ h1 h2 h)
  have hfr : ∀ k : Nat, k < 64 → s.heap.size ≤ adF q0 q9 u8 u9 tO tC b k := fun k hk => by
    obtain ⟨e1, h1⟩ := hpos k hk
    exact hD.2 _ _ h1
  have hzA : ∀ q : Nat, zA (D, adF q0 q9 u8 u9 tO tC b, (cI, cL, cZ)) q → s.heap.size ≤ q := fun q ⟨k, hk, e'⟩ => by rw [e']; exact hfr k hk
  have hPw : va_P D classes (wo (D, adF q0 q9 u8 u9 tO tC b, (cI, cL, cZ)) μ0) H := fun k q hk => by
    obtain ⟨t, h1, rfl⟩ := wo_at' hk
    exact hP _ _ (ws64_at (D := D) (tO := tO) (tC := tC) (b := b) k t (lay_lt h1) h1)
  have hZS : ZS (D, adF q0 q9 u8 u9 tO tC b, (cI, cL, cZ)) s s.heap := ⟨⟨hZO.narrow hzA, hTO.narrow hzA⟩, ⟨hZC.narrow hzA, hTC.narrow hzA⟩⟩
  have hLH : LH (adF q0 q9 u8 u9 tO tC b) 4 ls (LL 0) := by
    refine ⟨hl.1, hl.2.1, fun i v hi => ?_⟩
    match i, hi with
    | 0, hi => cases hi; exact hl.2.2 (0, .ref b) (by simp)
    | 1, hi => cases hi; exact hl.2.2 (1, .ref q0) (by simp)
    | 2, hi => cases hi; exact hl.2.2 (2, .ref q9) (by simp)
    | 3, hi => cases hi; exact hl.2.2 (3, .int (Int32.ofInt 0)) (by simp)
    | i + 4, hi => simp at hi
  refine W.widen (k := 64) (n := 1739) (Nat.le_of_ble_eq_true rfl) (Nat.le_of_ble_eq_true rfl) ?_
  exact l_loop hL (L + 6) 0 (by omega) (by omega) (by omega) μ0 REL0 (D, adF q0 q9 u8 u9 tO tC b, (cI, cL, cZ)) p l e s m below meth c b ⟨C0, hK, hNW, hZS, hinj, rfl, hfr⟩ H _ ls hPw hS hLH
