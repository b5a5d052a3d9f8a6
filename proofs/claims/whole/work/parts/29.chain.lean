theorem stD_dual {law : Int} {P : Nat} {A : Int} {B D g : Int → Int} (hP : P ≤ 4) : sm (fun k => g k * stD law P A B D k) 50 = sm (fun s => D s * (A * g s + sm (fun p => B p * g (tgt law s p)) P)) 50 := by
  have h1 : sm (fun k => g k * stD law P A B D k) 50 = sm (fun k => sm (fun s => D s * (A * (g k * ind k s) + sm (fun p => B p * (g k * ind k (tgt law s p))) P)) 50) 50 := by
    refine sm_congr fun k _ _ => ?_
    unfold stD
    rw [← sm_mul]
    refine sm_congr fun s _ _ => ?_
    have h2 : sm (fun p => B p * (g k * ind k (tgt law s p))) P = g k * sm (fun p => B p * ind k (tgt law s p)) P := by
      rw [← sm_mul]
      refine sm_congr fun p _ _ => ?_
      grind
    rw [h2]
    grind
  rw [h1, sm_swap]
  refine sm_congr fun s s0 s1 => ?_
  rw [sm_mul, sm_add, sm_mul, sm_ind s0 s1, sm_swap]
  congr 2
  refine sm_congr fun p p0 p1 => ?_
  have ht := tgt_in (law := law) (s := s) (p := p) ⟨s0, by omega⟩ ⟨p0, by omega⟩
  rw [sm_mul, sm_ind ht.1 (by omega)]
theorem st12 : ∀ P ∈ ([0, 1, 2, 3, 4] : List Int), ∀ sev ∈ ([0, 1, 2] : List Int), ∀ b ∈ ([0, 1, 2, 3, 4, 5, 6, 7, 8, 9, 10, 11, 12, 13, 14, 15] : List Int), b < (2 : Int) ^ P.toNat → stp sev b + sm (fun p => shp sev b p) P.toNat = 12 := by decide +kernel
theorem in5 {P : Int} (h : 0 ≤ P ∧ P ≤ 4) : P ∈ ([0, 1, 2, 3, 4] : List Int) := by
  simp only [List.mem_cons, List.not_mem_nil, or_false]; omega
theorem in3 {P : Int} (h : 0 ≤ P ∧ P ≤ 2) : P ∈ ([0, 1, 2] : List Int) := by
  simp only [List.mem_cons, List.not_mem_nil, or_false]; omega
theorem in16 {P : Int} (h : 0 ≤ P ∧ P < 16) : P ∈ ([0, 1, 2, 3, 4, 5, 6, 7, 8, 9, 10, 11, 12, 13, 14, 15] : List Int) := by
  simp only [List.mem_cons, List.not_mem_nil, or_false]; omega
theorem sh_nn {sev b p : Int} : 0 ≤ shp sev b p ∧ 0 ≤ stp sev b := by
  have := on_in (b := b)
  unfold shp stp
  refine ⟨?_, by split <;> omega⟩
  split
  · omega
  · split
    · split
      · exact Int.ediv_nonneg (by omega) this.1
      · omega
    · omega
theorem wy_sum {κ : Mem} {i : Int} (h : 0 ≤ κ 129 0 ∧ κ 129 0 ≤ 4) : sm (fun b => wy κ i b) (pP κ) = 256 := by
  have hq : ∀ p : Int, κ 129 0 ≤ p → qk κ i p = 0 := fun p hp => by rw [qk, if_neg (by omega)]
  unfold pP
  rcases (show κ 129 0 = 0 ∨ κ 129 0 = 1 ∨ κ 129 0 = 2 ∨ κ 129 0 = 3 ∨ κ 129 0 = 4 by omega) with e | e | e | e | e
  · rw [e]
    simp (decide := true) only [Int.toNat, Nat.reducePow, sm, wy, wyN, if_true, if_false]
    rw [hq _ (by omega), hq _ (by omega), hq _ (by omega), hq _ (by omega)]
    decide
  · rw [e]
    simp (decide := true) only [Int.toNat, Nat.reducePow, sm, wy, wyN, if_true, if_false]
    rw [hq _ (show κ 129 0 ≤ ((1 : Nat) : Int) by omega), hq _ (show κ 129 0 ≤ ((2 : Nat) : Int) by omega), hq _ (show κ 129 0 ≤ ((3 : Nat) : Int) by omega)]
    generalize qk κ i ((0 : Nat) : Int) = a
    grind
  · rw [e]
    simp (decide := true) only [Int.toNat, Nat.reducePow, sm, wy, wyN, if_true, if_false]
    rw [hq _ (show κ 129 0 ≤ ((2 : Nat) : Int) by omega), hq _ (show κ 129 0 ≤ ((3 : Nat) : Int) by omega)]
    generalize qk κ i ((0 : Nat) : Int) = a
    generalize qk κ i ((1 : Nat) : Int) = b
    grind
  · rw [e]
    simp (decide := true) only [Int.toNat, Nat.reducePow, sm, wy, wyN, if_true, if_false]
    rw [hq _ (show κ 129 0 ≤ ((3 : Nat) : Int) by omega)]
    generalize qk κ i ((0 : Nat) : Int) = a
    generalize qk κ i ((1 : Nat) : Int) = b
    generalize qk κ i ((2 : Nat) : Int) = c
    grind
  · rw [e]
    simp (decide := true) only [Int.toNat, Nat.reducePow, sm, wy, wyN, if_true, if_false]
    generalize qk κ i ((0 : Nat) : Int) = a
    generalize qk κ i ((1 : Nat) : Int) = b
    generalize qk κ i ((2 : Nat) : Int) = c
    generalize qk κ i ((3 : Nat) : Int) = d
    grind
theorem pP_cast {κ : Mem} : ((pP κ : Nat) : Int) = (2 : Int) ^ (κ 129 0).toNat := pw_nat
theorem st_sum {κ : Mem} (h : KR κ) {i : Int} : sty κ i + sm (fun p => pas κ i p) (κ 129 0).toNat = 3072 := by
  unfold sty styN pas pasN
  rw [sm_swap, ← sm_add]
  rw [sm_congr (g := fun b => 12 * wy κ i b) (fun b b0 b1 => ?_), sm_mul, wy_sum h.1]
  · rfl
  · rw [pP_cast] at b1
    have hpw := pw_small h.1
    have h1 := st12 _ (in5 h.1) _ (in3 h.2.2.2.1) b (in16 ⟨b0, by omega⟩) b1
    rw [sm_mul]
    generalize sm (fun p => shp (κ 127 0) b p) (κ 129 0).toNat = x at h1 ⊢
    rw [← Int.mul_add, h1, Int.mul_comm]
theorem sty_nn {κ : Mem} (h : KR κ) {i : Int} (hi : 0 ≤ i ∧ i < 4) : 0 ≤ sty κ i := sm_nn fun b _ _ => Int.mul_nonneg (wy_in h hi).1 (sh_nn (p := 0)).2
theorem pas_nn {κ : Mem} (h : KR κ) {i p : Int} (hi : 0 ≤ i ∧ i < 4) : 0 ≤ pas κ i p := sm_nn fun b _ _ => Int.mul_nonneg (wy_in h hi).1 (sh_nn (p := p)).1
theorem ind_nn {a b : Int} : 0 ≤ ind a b := by unfold ind; split <;> omega
theorem DD_nn {κ : Mem} (h : KR κ) : ∀ (i : Nat), i ≤ 4 → ∀ k : Int, 0 ≤ DD κ i k
  | 0, _, k => ind_nn
  | i + 1, hi, k => by
    show 0 ≤ stD _ _ _ _ (DD κ i) k
    refine sm_nn fun s _ _ => Int.mul_nonneg (DD_nn h i (by omega) s) (Int.add_nonneg (Int.mul_nonneg (sty_nn h ⟨by omega, by omega⟩) ind_nn) (sm_nn fun p _ _ => Int.mul_nonneg (pas_nn h ⟨by omega, by omega⟩) ind_nn))
theorem DD_sum {κ : Mem} (h : KR κ) : ∀ i : Nat, sm (fun k => DD κ i k) 50 = 3072 ^ i
  | 0 => by
    have h5 := h.2.2.2.2.1
    show sm (fun k => ind k (10 * κ 128 0)) 50 = 1
    rw [sm_congr (g := fun k => 1 * ind k (10 * κ 128 0)) (fun k _ _ => (Int.one_mul _).symm), sm_ind (by omega) (by omega)]
  | i + 1 => by
    have hP : (κ 129 0).toNat ≤ 4 := by have := h.1; omega
    have h1 : sm (fun k => 1 * DD κ (i + 1) k) 50 = _ := stD_dual (law := κ 126 0) (A := sty κ i) (B := pas κ i) (D := DD κ i) (g := fun _ => 1) hP
    rw [sm_congr (g := fun k => DD κ (i + 1) k) (fun k _ _ => Int.one_mul _)] at h1
    rw [h1, sm_congr (g := fun s => 3072 * DD κ i s) (fun s _ _ => ?_), sm_mul, DD_sum h i, Int.pow_succ, Int.mul_comm]
    have h2 := st_sum h (i := i)
    rw [sm_congr (g := fun p => pas κ i p) (fun p _ _ => Int.mul_one _), Int.mul_one, h2, Int.mul_comm]
theorem DD_le {κ : Mem} (h : KR κ) {i : Nat} (hi : i ≤ 4) {k : Int} (h0 : 0 ≤ k) (h1 : k < 50) : 0 ≤ DD κ i k ∧ DD κ i k ≤ 3072 ^ i := by
  refine ⟨DD_nn h i hi k, ?_⟩
  rw [← DD_sum h i]
  exact sm_one (fun k _ _ => DD_nn h i hi k) k h0 h1
theorem p3072 : ∀ i : Nat, i ≤ 4 → (1 : Int) ≤ 3072 ^ i ∧ (3072 : Int) ^ i ≤ 89060441849856 := by decide +kernel
