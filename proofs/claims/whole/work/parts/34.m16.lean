theorem KR.w129 {κ : Mem} {x : Int} (h : KR κ) (hx : 0 ≤ x ∧ x ≤ 4) : KR (wr κ 129 0 x) := by
  obtain ⟨r129, r125, r126, r127, r128, r130, rP, r124, r44⟩ := h
  refine ⟨?_, ?_, ?_, ?_, ?_, ?_, fun p p0 p1 => ?_, ?_, ?_⟩ <;> simp (decide := true) only [wr_n, wr_s, if_true, if_false, eq_self, reduceIte]
  all_goals first | assumption | exact rP p p0 p1
theorem MR.w129 {κ μ : Mem} {x : Int} (h : MR κ μ) (hx : 0 ≤ x ∧ x ≤ 4) : MR (wr κ 129 0 x) (wr μ 129 0 x) := by
  obtain ⟨hk, m129, m125, m126, m127, m128, m130, mP, m124, m44⟩ := h
  refine ⟨hk.w129 hx, ?_, ?_, ?_, ?_, ?_, ?_, fun p p0 p1 => ?_, ?_, ?_⟩ <;> simp (decide := true) only [wr_n, wr_s, if_true, if_false, eq_self, reduceIte]
  all_goals first | assumption | exact mP p p0 p1
theorem KR.w126 {κ : Mem} {x : Int} (h : KR κ) (hx : 0 ≤ x ∧ x ≤ 2) : KR (wr κ 126 0 x) := by
  obtain ⟨r129, r125, r126, r127, r128, r130, rP, r124, r44⟩ := h
  refine ⟨?_, ?_, ?_, ?_, ?_, ?_, fun p p0 p1 => ?_, ?_, ?_⟩ <;> simp (decide := true) only [wr_n, wr_s, if_true, if_false, eq_self, reduceIte]
  all_goals first | assumption | exact rP p p0 p1
theorem MR.w126 {κ μ : Mem} {x : Int} (h : MR κ μ) (hx : 0 ≤ x ∧ x ≤ 2) : MR (wr κ 126 0 x) (wr μ 126 0 x) := by
  obtain ⟨hk, m129, m125, m126, m127, m128, m130, mP, m124, m44⟩ := h
  refine ⟨hk.w126 hx, ?_, ?_, ?_, ?_, ?_, ?_, fun p p0 p1 => ?_, ?_, ?_⟩ <;> simp (decide := true) only [wr_n, wr_s, if_true, if_false, eq_self, reduceIte]
  all_goals first | assumption | exact mP p p0 p1
theorem KR.w127 {κ : Mem} {x : Int} (h : KR κ) (hx : 0 ≤ x ∧ x ≤ 2) : KR (wr κ 127 0 x) := by
  obtain ⟨r129, r125, r126, r127, r128, r130, rP, r124, r44⟩ := h
  refine ⟨?_, ?_, ?_, ?_, ?_, ?_, fun p p0 p1 => ?_, ?_, ?_⟩ <;> simp (decide := true) only [wr_n, wr_s, if_true, if_false, eq_self, reduceIte]
  all_goals first | assumption | exact rP p p0 p1
theorem MR.w127 {κ μ : Mem} {x : Int} (h : MR κ μ) (hx : 0 ≤ x ∧ x ≤ 2) : MR (wr κ 127 0 x) (wr μ 127 0 x) := by
  obtain ⟨hk, m129, m125, m126, m127, m128, m130, mP, m124, m44⟩ := h
  refine ⟨hk.w127 hx, ?_, ?_, ?_, ?_, ?_, ?_, fun p p0 p1 => ?_, ?_, ?_⟩ <;> simp (decide := true) only [wr_n, wr_s, if_true, if_false, eq_self, reduceIte]
  all_goals first | assumption | exact mP p p0 p1
theorem KR.w128 {κ : Mem} {x : Int} (h : KR κ) (hx : 0 ≤ x ∧ x ≤ 3) : KR (wr κ 128 0 x) := by
  obtain ⟨r129, r125, r126, r127, r128, r130, rP, r124, r44⟩ := h
  refine ⟨?_, ?_, ?_, ?_, ?_, ?_, fun p p0 p1 => ?_, ?_, ?_⟩ <;> simp (decide := true) only [wr_n, wr_s, if_true, if_false, eq_self, reduceIte]
  all_goals first | assumption | exact rP p p0 p1
theorem MR.w128 {κ μ : Mem} {x : Int} (h : MR κ μ) (hx : 0 ≤ x ∧ x ≤ 3) : MR (wr κ 128 0 x) (wr μ 128 0 x) := by
  obtain ⟨hk, m129, m125, m126, m127, m128, m130, mP, m124, m44⟩ := h
  refine ⟨hk.w128 hx, ?_, ?_, ?_, ?_, ?_, ?_, fun p p0 p1 => ?_, ?_, ?_⟩ <;> simp (decide := true) only [wr_n, wr_s, if_true, if_false, eq_self, reduceIte]
  all_goals first | assumption | exact mP p p0 p1
theorem KR.w130 {κ : Mem} {x : Int} (h : KR κ) (hx : 0 ≤ x ∧ x ≤ 15) : KR (wr κ 130 0 x) := by
  obtain ⟨r129, r125, r126, r127, r128, r130, rP, r124, r44⟩ := h
  refine ⟨?_, ?_, ?_, ?_, ?_, ?_, fun p p0 p1 => ?_, ?_, ?_⟩ <;> simp (decide := true) only [wr_n, wr_s, if_true, if_false, eq_self, reduceIte]
  all_goals first | assumption | exact rP p p0 p1
theorem MR.w130 {κ μ : Mem} {x : Int} (h : MR κ μ) (hx : 0 ≤ x ∧ x ≤ 15) : MR (wr κ 130 0 x) (wr μ 130 0 x) := by
  obtain ⟨hk, m129, m125, m126, m127, m128, m130, mP, m124, m44⟩ := h
  refine ⟨hk.w130 hx, ?_, ?_, ?_, ?_, ?_, ?_, fun p p0 p1 => ?_, ?_, ?_⟩ <;> simp (decide := true) only [wr_n, wr_s, if_true, if_false, eq_self, reduceIte]
  all_goals first | assumption | exact mP p p0 p1
theorem KR.w49 {κ : Mem} {p x : Int} (h : KR κ) (hx : 0 ≤ x ∧ x ≤ 15) : KR (wr κ 49 p x) := by
  obtain ⟨r129, r125, r126, r127, r128, r130, rP, r124, r44⟩ := h
  refine ⟨?_, ?_, ?_, ?_, ?_, ?_, fun q q0 q1 => ?_, ?_, ?_⟩ <;> simp (decide := true) only [wr_n, wr_s, if_true, if_false, eq_self, reduceIte]
  all_goals first | assumption | skip
  have := rP q q0 q1
  refine ⟨?_, ?_, ?_, ?_⟩ <;> (try split) <;> omega
theorem MR.w49 {κ μ : Mem} {p x : Int} (h : MR κ μ) (hx : 0 ≤ x ∧ x ≤ 15) : MR (wr κ 49 p x) (wr μ 49 p x) := by
  obtain ⟨hk, m129, m125, m126, m127, m128, m130, mP, m124, m44⟩ := h
  refine ⟨hk.w49 hx, ?_, ?_, ?_, ?_, ?_, ?_, fun q q0 q1 => ?_, ?_, ?_⟩ <;> simp (decide := true) only [wr_n, wr_s, if_true, if_false, eq_self, reduceIte]
  all_goals first | assumption | skip
  obtain ⟨a1, a2, a3, a4⟩ := mP q q0 q1
  rw [a1, a2, a3, a4]
  exact ⟨rfl, rfl, rfl, rfl⟩
theorem KR.w50 {κ : Mem} {p x : Int} (h : KR κ) (hx : 0 ≤ x ∧ x ≤ 4) : KR (wr κ 50 p x) := by
  obtain ⟨r129, r125, r126, r127, r128, r130, rP, r124, r44⟩ := h
  refine ⟨?_, ?_, ?_, ?_, ?_, ?_, fun q q0 q1 => ?_, ?_, ?_⟩ <;> simp (decide := true) only [wr_n, wr_s, if_true, if_false, eq_self, reduceIte]
  all_goals first | assumption | skip
  have := rP q q0 q1
  refine ⟨?_, ?_, ?_, ?_⟩ <;> (try split) <;> omega
theorem MR.w50 {κ μ : Mem} {p x : Int} (h : MR κ μ) (hx : 0 ≤ x ∧ x ≤ 4) : MR (wr κ 50 p x) (wr μ 50 p x) := by
  obtain ⟨hk, m129, m125, m126, m127, m128, m130, mP, m124, m44⟩ := h
  refine ⟨hk.w50 hx, ?_, ?_, ?_, ?_, ?_, ?_, fun q q0 q1 => ?_, ?_, ?_⟩ <;> simp (decide := true) only [wr_n, wr_s, if_true, if_false, eq_self, reduceIte]
  all_goals first | assumption | skip
  obtain ⟨a1, a2, a3, a4⟩ := mP q q0 q1
  rw [a1, a2, a3, a4]
  exact ⟨rfl, rfl, rfl, rfl⟩
theorem KR.w51 {κ : Mem} {p x : Int} (h : KR κ) (hx : 0 ≤ x ∧ x ≤ 9) : KR (wr κ 51 p x) := by
  obtain ⟨r129, r125, r126, r127, r128, r130, rP, r124, r44⟩ := h
  refine ⟨?_, ?_, ?_, ?_, ?_, ?_, fun q q0 q1 => ?_, ?_, ?_⟩ <;> simp (decide := true) only [wr_n, wr_s, if_true, if_false, eq_self, reduceIte]
  all_goals first | assumption | skip
  have := rP q q0 q1
  refine ⟨?_, ?_, ?_, ?_⟩ <;> (try split) <;> omega
theorem MR.w51 {κ μ : Mem} {p x : Int} (h : MR κ μ) (hx : 0 ≤ x ∧ x ≤ 9) : MR (wr κ 51 p x) (wr μ 51 p x) := by
  obtain ⟨hk, m129, m125, m126, m127, m128, m130, mP, m124, m44⟩ := h
  refine ⟨hk.w51 hx, ?_, ?_, ?_, ?_, ?_, ?_, fun q q0 q1 => ?_, ?_, ?_⟩ <;> simp (decide := true) only [wr_n, wr_s, if_true, if_false, eq_self, reduceIte]
  all_goals first | assumption | skip
  obtain ⟨a1, a2, a3, a4⟩ := mP q q0 q1
  rw [a1, a2, a3, a4]
  exact ⟨rfl, rfl, rfl, rfl⟩
theorem KR.w52 {κ : Mem} {p x : Int} (h : KR κ) (hx : 0 ≤ x ∧ x ≤ 9) : KR (wr κ 52 p x) := by
  obtain ⟨r129, r125, r126, r127, r128, r130, rP, r124, r44⟩ := h
  refine ⟨?_, ?_, ?_, ?_, ?_, ?_, fun q q0 q1 => ?_, ?_, ?_⟩ <;> simp (decide := true) only [wr_n, wr_s, if_true, if_false, eq_self, reduceIte]
  all_goals first | assumption | skip
  have := rP q q0 q1
  refine ⟨?_, ?_, ?_, ?_⟩ <;> (try split) <;> omega
theorem MR.w52 {κ μ : Mem} {p x : Int} (h : MR κ μ) (hx : 0 ≤ x ∧ x ≤ 9) : MR (wr κ 52 p x) (wr μ 52 p x) := by
  obtain ⟨hk, m129, m125, m126, m127, m128, m130, mP, m124, m44⟩ := h
  refine ⟨hk.w52 hx, ?_, ?_, ?_, ?_, ?_, ?_, fun q q0 q1 => ?_, ?_, ?_⟩ <;> simp (decide := true) only [wr_n, wr_s, if_true, if_false, eq_self, reduceIte]
  all_goals first | assumption | skip
  obtain ⟨a1, a2, a3, a4⟩ := mP q q0 q1
  rw [a1, a2, a3, a4]
  exact ⟨rfl, rfl, rfl, rfl⟩
theorem MR.frB {κ μ ν : Mem} {F : List Nat} (hM : MR κ μ) (hF : Fr F μ ν) (h : F.all (fun c => decide (c ∉ [44, 49, 50, 51, 52, 124, 125, 126, 127, 128, 129, 130])) = true) : MR κ ν := by
  have hc : ∀ c : Nat, c ∈ [44, 49, 50, 51, 52, 124, 125, 126, 127, 128, 129, 130] → ∀ k, ν c k = μ c k := fun c h1 k => by
    rw [hF c (fun q => ?_)]
    have := List.all_eq_true.mp h c q
    simp only [decide_eq_true_eq] at this
    exact this h1
  obtain ⟨h1, m129, m125, m126, m127, m128, m130, mP, m124, m44⟩ := hM
  refine ⟨h1, by rw [hc 129 (by decide)]; exact m129, by rw [hc 125 (by decide)]; exact m125, by rw [hc 126 (by decide)]; exact m126, by rw [hc 127 (by decide)]; exact m127, by rw [hc 128 (by decide)]; exact m128, by rw [hc 130 (by decide)]; exact m130, fun p p0 p1 => ?_, by rw [hc 124 (by decide)]; exact m124, fun k k0 k1 => by rw [hc 44 (by decide)]; exact m44 k k0 k1⟩
  rw [hc 49 (by decide), hc 50 (by decide), hc 51 (by decide), hc 52 (by decide)]
  exact mP p p0 p1
/-! ===== best ways ===== -/
def way (κ : Mem) (p L b : Int) : Mem := wr (wr κ 50 p L) 49 p b
theorem wr_wr {μ : Mem} {c : Nat} {k x y : Int} : wr (wr μ c k x) c k y = wr μ c k y := by
  funext c' k'
  unfold wr
  split <;> rfl
theorem wr_cm {μ : Mem} {c d : Nat} {k j x y : Int} (h : c ≠ d) : wr (wr μ c k x) d j y = wr (wr μ d j y) c k x := by
  funext c' k'
  unfold wr
  by_cases h1 : c' = d ∧ k' = j
  · rw [if_pos h1, if_neg (by omega), if_pos h1]
  · rw [if_neg h1, if_neg h1]
theorem wr_id {μ : Mem} {c : Nat} {k x : Int} (h : μ c k = x) : wr μ c k x = μ := by
  funext c' k'
  unfold wr
  split
  · rename_i q; rw [q.1, q.2, h]
  · rfl
theorem way_49 {κ : Mem} {p L b b' : Int} : wr (way κ p L b) 49 p b' = way κ p L b' := wr_wr
theorem way_50 {κ : Mem} {p L L' b : Int} : wr (way κ p L b) 50 p L' = way κ p L' b := by
  unfold way
  rw [wr_cm (by decide), wr_wr]
theorem way_id {κ : Mem} {p : Int} : way κ p (κ 50 p) (κ 49 p) = κ := by
  unfold way
  rw [wr_id rfl, wr_id rfl]
theorem way_o {κ : Mem} {p L b : Int} {c : Nat} (h1 : c ≠ 49) (h2 : c ≠ 50) : way κ p L b c = κ c := by
  unfold way
  rw [wr_nc h1, wr_nc h2]
def cw (κ : Mem) (p L b : Int) : Int := cst (way κ p L b) p
abbrev BS : Type := Int × Int × Int
def bstB (κ : Mem) (p L : Int) (s : BS) : Nat → BS
  | 0 => s
  | m + 1 => if (bstB κ p L s m).1 < 0 ∨ cw κ p L m < (bstB κ p L s m).1 then (cw κ p L m, m, L) else bstB κ p L s m
def lvO (κ : Mem) (j : Nat) : Int := if j = 0 then 4 else κ 125 0 - j
def bstL (κ : Mem) (p : Int) : Nat → BS
  | 0 => (-1, 0, 0)
  | j + 1 => bstB κ p (lvO κ j) (bstL κ p j) (2 ^ (κ 125 0).toNat)
def best (κ : Mem) (p : Int) : BS := bstL κ p ((κ 125 0).toNat + 1)
theorem bstB_succ {κ : Mem} {p L b : Int} {s : BS} (h : 0 ≤ b) : bstB κ p L s (b + 1).toNat = if (bstB κ p L s b.toNat).1 < 0 ∨ cw κ p L b < (bstB κ p L s b.toNat).1 then (cw κ p L b, b, L) else bstB κ p L s b.toNat := by
  rw [show (b + 1).toNat = b.toNat + 1 by omega]
  show (if (bstB κ p L s b.toNat).1 < 0 ∨ cw κ p L ((b.toNat : Nat) : Int) < (bstB κ p L s b.toNat).1 then (cw κ p L ((b.toNat : Nat) : Int), ((b.toNat : Nat) : Int), L) else bstB κ p L s b.toNat) = _
  rw [show ((b.toNat : Nat) : Int) = b by omega]
/-- the model's notes of the best so far -/
def RB (κ ν : Mem) (s : BS) : Prop := ((s.1 < 0 ∧ ν 133 0 = -1) ∨ (0 ≤ s.1 ∧ s.1 ≤ 54 * 6144 ^ (κ 125 0).toNat ∧ ν 133 0 = s.1 * sc κ ∧ ν 131 0 = s.2.1 ∧ ν 132 0 = s.2.2 ∧ (0 ≤ s.2.1 ∧ s.2.1 ≤ 15) ∧ (0 ≤ s.2.2 ∧ s.2.2 ≤ 4)))
theorem way_MR {κ ν : Mem} {p L b b' : Int} (h : MR (way κ p L b) ν) (hb : 0 ≤ b' ∧ b' ≤ 15) : MR (way κ p L b') (wr ν 49 p b') := by
  have := h.w49 (p := p) hb
  rwa [way_49] at this
theorem way_MR5 {κ ν : Mem} {p L L' b : Int} (h : MR (way κ p L b) ν) (hb : 0 ≤ L' ∧ L' ≤ 4) : MR (way κ p L' b) (wr ν 50 p L') := by
  have := h.w50 (p := p) hb
  rwa [way_50] at this
theorem way_KR {κ : Mem} {p L b : Int} (h : KR κ) (hL : 0 ≤ L ∧ L ≤ 4) (hb : 0 ≤ b ∧ b ≤ 15) : KR (way κ p L b) := (h.w50 hL).w49 hb
theorem way_sc {κ : Mem} {p L b : Int} : sc (way κ p L b) = sc κ := by
  unfold sc
  rw [way_o (by decide) (by decide)]
theorem way_KO {κ : Mem} {p L b : Int} (h : KO κ) (hL : 0 ≤ L ∧ L ≤ 4) (hb : 0 ≤ b ∧ b ≤ 15) : KO (way κ p L b) := ⟨way_KR h.1 hL hb, by rw [way_o (by decide) (by decide), way_o (by decide) (by decide)]; exact h.2⟩
theorem cw_in {κ : Mem} (h : KO κ) {p L b : Int} (hL : 0 ≤ L ∧ L ≤ 4) (hb : 0 ≤ b ∧ b ≤ 15) (p0 : 0 ≤ p) (p1 : p < κ 129 0) (p2 : p < κ 124 0) : 0 ≤ cw κ p L b ∧ cw κ p L b ≤ 54 * 6144 ^ (κ 125 0).toNat := by
  have := cst_in (κ := way κ p L b) (way_KO h hL hb) (p := p) p0 (by rw [way_o (by decide) (by decide)]; exact p1) (by rw [way_o (by decide) (by decide)]; exact p2)
  rw [way_o (c := 125) (by decide) (by decide)] at this
  exact this
theorem mul_lt_sc {κ : Mem} (h : KR κ) {a b : Int} : a * sc κ < b * sc κ ↔ a < b := by
  have := (sc_in h).1
  exact ⟨fun q => Int.lt_of_mul_lt_mul_right q (by omega), fun q => Int.mul_lt_mul_of_pos_right q (by omega)⟩
theorem cost_in {κ : Mem} (h : KR κ) {a : Int} (h0 : 0 ≤ a) (h1 : a ≤ 54 * 6144 ^ (κ 125 0).toNat) : 0 ≤ a * sc κ ∧ a * sc κ < 4611686018427387904 := by
  have h2 := p6144 h
  have h3 := sc_in h
  refine ⟨Int.mul_nonneg h0 (by omega), ?_⟩
  have := Int.mul_le_mul h1 h3.2.1 (by omega) (by omega)
  omega
theorem lp_X9_best2 {κ : Mem} {p wh wl k Lv : Int} {s : BS} {μ : Mem} {post : Option AV → Mem → Prop} (hko : KO κ) (hp : 0 ≤ p ∧ p < κ 129 0) (hp2 : p < κ 124 0) (hL : 0 ≤ Lv ∧ Lv ≤ 4) (hk : ∀ ν b, Fr [49, 50, 53, 54, 131, 132, 133] μ ν → MR (way κ p Lv b) ν → RB κ ν (bstB κ p Lv s (2 ^ (κ 125 0).toNat)) → AW kX9_findBest 129 [some (.inr (.inr 9)), some (.inl p), some (.inl wh), some (.inl wl), some (.inl k), none, none, none] [] ν post) : ∀ (f : Nat) (b c : Int) (ν : Mem), (0 ≤ b) → (b ≤ (2 : Int) ^ (κ 125 0).toNat) → (Fr [49, 50, 53, 54, 131, 132, 133] μ ν) → (MR (way κ p Lv c) ν) → (RB κ ν (bstB κ p Lv s b.toNat)) → (2 : Int) ^ (κ 125 0).toNat - b < (f : Int) → AW kX9_findBest 56 [some (.inr (.inr 9)), some (.inl p), some (.inl wh), some (.inl wl), some (.inl k), some (.inl b), none, none] [] ν (post) := by
  intro f
  induction f with
  | zero =>
    intro b c ν h0 h1 hF hM hB hm
    exfalso; omega
  | succ f ih =>
    intro b c ν h0 h1 hF hM hB hm
    have hk1 := hko.1
    have r129 := hk1.1
    have r125 := hk1.2.1
    have hpw := pw_small (k := κ 125 0) r125
    have m125 := hM.2.2.1
    rw [way_o (by decide) (by decide)] at m125
    refine s_iload_5 (pc := 56) dX9_findBest_56 ?_
    refine s_iconst_1 (pc := 58) dX9_findBest_58 ?_
    refine s_aload_0 (pc := 59) dX9_findBest_59 ?_
    refine gfX9_129 (pc := 60) dX9_findBest_60 rfl ?_
    try simp (decide := true) only [wr_s, wr_n, wa_s, wa_n, mg_i, mg_o, if_true, eq_self, reduceIte]
    refine s_ishl (pc := 63) dX9_findBest_63 ?_
    rw [m125, shl1 (by omega)]
    refine s_icmp_ge (pc := 64) 129 dX9_findBest_64 rfl (by omega) (by omega) (fun h64 => ?_) (fun h64 => ?_)
    · have hbe : b = (2 : Int) ^ (κ 125 0).toNat := by omega
      have hbn : b.toNat = 2 ^ (κ 125 0).toNat := by rw [hbe, ← pw_nat]; rfl
      refine s_le ?_ (hk ν c hF hM (by rw [hbn] at hB; exact hB))
      exact ⟨Or.inr rfl, Or.inr rfl, Or.inr rfl, Or.inr rfl, Or.inr rfl, Or.inl rfl, Or.inl rfl, Or.inl rfl, trivial⟩
    · refine s_aload_0 (pc := 67) dX9_findBest_67 ?_
      refine gfX9_40 (pc := 68) dX9_findBest_68 rfl ?_
      refine s_iload_1 (pc := 71) dX9_findBest_71 ?_
      have hM2 := way_MR hM (b' := b) (by omega)
      have hcw := cw_in hko hL (b := b) (by omega) hp.1 hp.2 hp2
      have hci := cost_in hk1 hcw.1 hcw.2
      refine s_iload_5 (pc := 72) dX9_findBest_72 ?_
      refine z_iastore (pc := 74) dX9_findBest_74 ly_49 ip_49 (by omega) (by omega) ?_
      refine s_aload_0 (pc := 75) dX9_findBest_75 ?_
      refine s_iload_1 (pc := 76) dX9_findBest_76 ?_
      refine cV1l (pc := 77) (Ky := kX9_costNow) dX9_findBest_77 rfl lnX9_258 okX9_costNow ⟨9, TX9, 40, rfl, rfl⟩ ⟨Nat.le_of_ble_eq_true rfl, Nat.le_of_ble_eq_true rfl⟩ (Nat.le_of_ble_eq_true rfl) (c_X9_costNow hM2 (way_KO hko hL (by omega)).2 (by rw [way_o (by decide) (by decide)]; exact hp) (by rw [way_o (by decide) (by decide)]; exact hp2)) ?_
      rintro _ ν77 ⟨rfl, hF77⟩
      have hM7 := hM2.frB hF77 (by decide)
      have e133 : ν77 133 0 = ν 133 0 := by rw [hF77.at 133 rfl 0, wr_n (by decide)]
      have e131 : ν77 131 0 = ν 131 0 := by rw [hF77.at 131 rfl 0, wr_n (by decide)]
      have e132 : ν77 132 0 = ν 132 0 := by rw [hF77.at 132 rfl 0, wr_n (by decide)]
      have e50 : ν77 50 p = Lv := by
        have := (hM7.2.2.2.2.2.2.2.1 p hp.1 (by omega)).2.1
        rw [this]; unfold way; rw [wr_n (by decide), wr_s, if_pos rfl]
      have hFF : Fr [49, 50, 53, 54, 131, 132, 133] μ ν77 := (hF.wr (by decide)).tr (hF77.mono (by decide))
      rw [way_sc]
      show AW kX9_findBest _ _ (.inr (.inl (cw κ p Lv b * sc κ)) :: _) _ _
      have hB2 : -1 ≤ ν77 133 0 ∧ ν77 133 0 < 4611686018427387904 := by
        rcases hB with ⟨q1, q2⟩ | ⟨q1, q2, q3, q4⟩
        · omega
        · have := cost_in hk1 q1 q2
          omega
      refine s_lstore_6 (pc := 80) dX9_findBest_80 (Nat.le_of_ble_eq_true rfl) rfl ?_
      refine s_aload_0 (pc := 82) dX9_findBest_82 ?_
      refine gfX9_266 (pc := 83) dX9_findBest_83 rfl ?_
      try simp (decide := true) only [wr_s, wr_n, wa_s, wa_n, mg_i, mg_o, if_true, eq_self, reduceIte]
      refine s_lconst_0 (pc := 86) dX9_findBest_86 ?_
      refine s_lif_lt (pc := 87) 101 dX9_findBest_87 dX9_findBest_88 rfl (by omega) (by omega) (fun h88 => ?_) (fun h88 => ?_)
      · have hup : (bstB κ p Lv s b.toNat).1 < 0 ∨ cw κ p Lv b < (bstB κ p Lv s b.toNat).1 := by
          rcases hB with ⟨q1, q2⟩ | ⟨q1, q2, q3, q4⟩
          · exact Or.inl q1
          · have := cost_in hk1 q1 q2; omega
        refine s_aload_0 (pc := 101) dX9_findBest_101 ?_
        refine s_lload_6 (pc := 102) dX9_findBest_102 ?_
        refine pfX9_266 (pc := 104) dX9_findBest_104 rfl ?_
        refine s_aload_0 (pc := 107) dX9_findBest_107 ?_
        refine s_iload_5 (pc := 108) dX9_findBest_108 ?_
        refine pfX9_270 (pc := 110) dX9_findBest_110 rfl ?_
        refine s_aload_0 (pc := 113) dX9_findBest_113 ?_
        refine s_aload_0 (pc := 114) dX9_findBest_114 ?_
        refine gfX9_43 (pc := 115) dX9_findBest_115 rfl ?_
        refine s_iload_1 (pc := 118) dX9_findBest_118 ?_
        refine z_iaload (pc := 119) dX9_findBest_119 ly_50 (by omega) (by omega) ?_
        try simp (decide := true) only [wr_s, wr_n, wa_s, wa_n, mg_i, mg_o, if_true, eq_self, reduceIte]
        refine pfX9_273 (pc := 120) dX9_findBest_120 rfl ?_
        refine s_iinc_5 (pc := 123) dX9_findBest_123 (Nat.le_of_ble_eq_true rfl) rfl ?_
        refine s_goto (pc := 126) 56 dX9_findBest_126 rfl ?_
        refine s_le ?_ (ih (b + 1) b _ (by omega) (by omega) ?_ ?_ ?_ (by omega))
        · exact ⟨Or.inr rfl, Or.inr rfl, Or.inr rfl, Or.inr rfl, Or.inr rfl, Or.inr rfl, Or.inl rfl, Or.inl rfl, trivial⟩
        · first | exact hFF | exact ((hFF.wr (by decide)).wr (by decide)).wr (by decide)
        · first | exact hM7 | exact hM7.frB (((Fr.rf (F := [131, 132, 133])).wr (by decide)).wr (by decide)).wr (by decide) (by decide)
        · rw [bstB_succ h0]
          first
            | (rw [if_neg hup]
               rcases hB with ⟨q1, q2⟩ | ⟨q1, q2, q3, q4, q5, q6⟩
               · exact Or.inl ⟨q1, by omega⟩
               · exact Or.inr ⟨q1, q2, by omega, by omega, by omega, q6⟩)
            | (rw [if_pos hup]
               refine Or.inr ⟨hcw.1, hcw.2, ?_, ?_, ?_, by dsimp only; omega, hL⟩
               · simp (decide := true) only [wr_s, wr_n, wa_s, wa_n, mg_i, mg_o, if_true, eq_self, reduceIte]
               · simp (decide := true) only [wr_s, wr_n, wa_s, wa_n, mg_i, mg_o, if_true, eq_self, reduceIte]
               · simp (decide := true) only [wr_s, wr_n, wa_s, wa_n, mg_i, mg_o, if_true, eq_self, reduceIte]; exact e50)
      · refine s_lload_6 (pc := 91) dX9_findBest_91 ?_
        refine s_aload_0 (pc := 93) dX9_findBest_93 ?_
        refine gfX9_266 (pc := 94) dX9_findBest_94 rfl ?_
        try simp (decide := true) only [wr_s, wr_n, wa_s, wa_n, mg_i, mg_o, if_true, eq_self, reduceIte]
        refine s_lif_ge (pc := 97) 123 dX9_findBest_97 dX9_findBest_98 rfl (by omega) (by omega) (fun h98 => ?_) (fun h98 => ?_)
        · have hup : ¬ ((bstB κ p Lv s b.toNat).1 < 0 ∨ cw κ p Lv b < (bstB κ p Lv s b.toNat).1) := by
            rcases hB with ⟨q1, q2⟩ | ⟨q1, q2, q3, q4⟩
            · omega
            · have := (mul_lt_sc hk1 (a := cw κ p Lv b) (b := (bstB κ p Lv s b.toNat).1)); omega
          refine s_iinc_5 (pc := 123) dX9_findBest_123 (Nat.le_of_ble_eq_true rfl) rfl ?_
          refine s_goto (pc := 126) 56 dX9_findBest_126 rfl ?_
          refine s_le ?_ (ih (b + 1) b _ (by omega) (by omega) ?_ ?_ ?_ (by omega))
          · exact ⟨Or.inr rfl, Or.inr rfl, Or.inr rfl, Or.inr rfl, Or.inr rfl, Or.inr rfl, Or.inl rfl, Or.inl rfl, trivial⟩
          · first | exact hFF | exact ((hFF.wr (by decide)).wr (by decide)).wr (by decide)
          · first | exact hM7 | exact hM7.frB (((Fr.rf (F := [131, 132, 133])).wr (by decide)).wr (by decide)).wr (by decide) (by decide)
          · rw [bstB_succ h0]
            first
              | (rw [if_neg hup]
                 rcases hB with ⟨q1, q2⟩ | ⟨q1, q2, q3, q4, q5, q6⟩
                 · exact Or.inl ⟨q1, by omega⟩
                 · exact Or.inr ⟨q1, q2, by omega, by omega, by omega, q6⟩)
              | (rw [if_pos hup]
                 refine Or.inr ⟨hcw.1, hcw.2, ?_, ?_, ?_, by dsimp only; omega, hL⟩
                 · simp (decide := true) only [wr_s, wr_n, wa_s, wa_n, mg_i, mg_o, if_true, eq_self, reduceIte]
                 · simp (decide := true) only [wr_s, wr_n, wa_s, wa_n, mg_i, mg_o, if_true, eq_self, reduceIte]
                 · simp (decide := true) only [wr_s, wr_n, wa_s, wa_n, mg_i, mg_o, if_true, eq_self, reduceIte]; exact e50)
        · have hup : (bstB κ p Lv s b.toNat).1 < 0 ∨ cw κ p Lv b < (bstB κ p Lv s b.toNat).1 := by
            rcases hB with ⟨q1, q2⟩ | ⟨q1, q2, q3, q4⟩
            · exact Or.inl q1
            · refine Or.inr ((mul_lt_sc hk1).mp ?_); omega
          refine s_aload_0 (pc := 101) dX9_findBest_101 ?_
          refine s_lload_6 (pc := 102) dX9_findBest_102 ?_
          refine pfX9_266 (pc := 104) dX9_findBest_104 rfl ?_
          refine s_aload_0 (pc := 107) dX9_findBest_107 ?_
          refine s_iload_5 (pc := 108) dX9_findBest_108 ?_
          refine pfX9_270 (pc := 110) dX9_findBest_110 rfl ?_
          refine s_aload_0 (pc := 113) dX9_findBest_113 ?_
          refine s_aload_0 (pc := 114) dX9_findBest_114 ?_
          refine gfX9_43 (pc := 115) dX9_findBest_115 rfl ?_
          refine s_iload_1 (pc := 118) dX9_findBest_118 ?_
          refine z_iaload (pc := 119) dX9_findBest_119 ly_50 (by omega) (by omega) ?_
          try simp (decide := true) only [wr_s, wr_n, wa_s, wa_n, mg_i, mg_o, if_true, eq_self, reduceIte]
          refine pfX9_273 (pc := 120) dX9_findBest_120 rfl ?_
          refine s_iinc_5 (pc := 123) dX9_findBest_123 (Nat.le_of_ble_eq_true rfl) rfl ?_
          refine s_goto (pc := 126) 56 dX9_findBest_126 rfl ?_
          refine s_le ?_ (ih (b + 1) b _ (by omega) (by omega) ?_ ?_ ?_ (by omega))
          · exact ⟨Or.inr rfl, Or.inr rfl, Or.inr rfl, Or.inr rfl, Or.inr rfl, Or.inr rfl, Or.inl rfl, Or.inl rfl, trivial⟩
          · first | exact hFF | exact ((hFF.wr (by decide)).wr (by decide)).wr (by decide)
          · first | exact hM7 | exact hM7.frB (((Fr.rf (F := [131, 132, 133])).wr (by decide)).wr (by decide)).wr (by decide) (by decide)
          · rw [bstB_succ h0]
            first
              | (rw [if_neg hup]
                 rcases hB with ⟨q1, q2⟩ | ⟨q1, q2, q3, q4, q5, q6⟩
                 · exact Or.inl ⟨q1, by omega⟩
                 · exact Or.inr ⟨q1, q2, by omega, by omega, by omega, q6⟩)
              | (rw [if_pos hup]
                 refine Or.inr ⟨hcw.1, hcw.2, ?_, ?_, ?_, by dsimp only; omega, hL⟩
                 · simp (decide := true) only [wr_s, wr_n, wa_s, wa_n, mg_i, mg_o, if_true, eq_self, reduceIte]
                 · simp (decide := true) only [wr_s, wr_n, wa_s, wa_n, mg_i, mg_o, if_true, eq_self, reduceIte]
                 · simp (decide := true) only [wr_s, wr_n, wa_s, wa_n, mg_i, mg_o, if_true, eq_self, reduceIte]; exact e50)
theorem lp_X9_best1 {κ : Mem} {p : Int} {μ : Mem} (hko : KO κ) (hp : 0 ≤ p ∧ p < κ 129 0) (hp2 : p < κ 124 0) : ∀ (f : Nat) (k L c : Int) (ν : Mem), (-1 ≤ k) → (k ≤ κ 125 0) → (Fr [49, 50, 53, 54, 131, 132, 133] μ ν) → (MR (way κ p L c) ν) → (RB κ ν (bstL κ p (κ 125 0 - k).toNat)) → k + 1 < (f : Int) → AW kX9_findBest 27 [some (.inr (.inr 9)), some (.inl p), some (.inl (κ 49 p)), some (.inl (κ 50 p)), some (.inl k), none, none, none] [] ν (pV (fun ν => Fr [49, 50, 53, 54, 131, 132, 133] μ ν ∧ MR κ ν ∧ RB κ ν (best κ p))) := by
  intro f
  induction f with
  | zero =>
    intro k L c ν h0 h1 hF hM hB hm
    exfalso; omega
  | succ f ih =>
    intro k L c ν h0 h1 hF hM hB hm
    have hk1 := hko.1
    have r129 := hk1.1
    have r125 := hk1.2.1
    have m125 := hM.2.2.1
    rw [way_o (by decide) (by decide)] at m125
    have rP := hk1.2.2.2.2.2.2.1 p hp.1 (by omega)
    refine s_iload_4 (pc := 27) dX9_findBest_27 ?_
    refine s_if_lt (pc := 29) 135 dX9_findBest_29 rfl (by omega) (fun h29 => ?_) (fun h29 => ?_)
    · refine s_aload_0 (pc := 135) dX9_findBest_135 ?_
      refine gfX9_40 (pc := 136) dX9_findBest_136 rfl ?_
      refine s_iload_1 (pc := 139) dX9_findBest_139 ?_
      refine s_iload_2 (pc := 140) dX9_findBest_140 ?_
      refine z_iastore (pc := 141) dX9_findBest_141 ly_49 ip_49 (by omega) (by omega) ?_
      refine s_aload_0 (pc := 142) dX9_findBest_142 ?_
      refine gfX9_43 (pc := 143) dX9_findBest_143 rfl ?_
      refine s_iload_1 (pc := 146) dX9_findBest_146 ?_
      refine s_iload_3 (pc := 147) dX9_findBest_147 ?_
      refine z_iastore (pc := 148) dX9_findBest_148 ly_50 ip_50 (by omega) (by omega) ?_
      refine s_return (pc := 149) dX9_findBest_149 rfl ?_
      cases (show k = -1 by omega)
      have hM3 := way_MR5 (way_MR hM (b' := κ 49 p) (by omega)) (L' := κ 50 p) (by omega)
      rw [way_id] at hM3
      refine ⟨(hF.wr (by decide)).wr (by decide), hM3, ?_⟩
      have hB2 : RB κ ν (best κ p) := by
        have he : (κ 125 0 - -1).toNat = (κ 125 0).toNat + 1 := by omega
        rw [he] at hB; exact hB
      rcases hB2 with ⟨q1, q2⟩ | ⟨q1, q2, q3, q4, q5, q6⟩
      · refine Or.inl ⟨q1, ?_⟩; simp (decide := true) only [wr_s, wr_n, wa_s, wa_n, mg_i, mg_o, if_true, eq_self, reduceIte]; exact q2
      · refine Or.inr ⟨q1, q2, ?_, ?_, ?_, q6⟩ <;> simp (decide := true) only [wr_s, wr_n, wa_s, wa_n, mg_i, mg_o, if_true, eq_self, reduceIte] <;> assumption
    · refine s_aload_0 (pc := 32) dX9_findBest_32 ?_
      refine gfX9_43 (pc := 33) dX9_findBest_33 rfl ?_
      refine s_iload_1 (pc := 36) dX9_findBest_36 ?_
      refine s_iload_4 (pc := 37) dX9_findBest_37 ?_
      refine s_aload_0 (pc := 39) dX9_findBest_39 ?_
      refine gfX9_129 (pc := 40) dX9_findBest_40 rfl ?_
      refine s_icmp_ne (pc := 43) 50 dX9_findBest_43 rfl (by omega) (by omega) (fun h43 => ?_) (fun h43 => ?_)
      · refine s_iload_4 (pc := 50) dX9_findBest_50 ?_
        refine s_valI (y := lvO κ (κ 125 0 - k).toNat) (by unfold lvO; first | (rw [if_pos (by omega)]; done) | (rw [if_neg (by omega)]; omega)) ?_
        have hLv : 0 ≤ lvO κ (κ 125 0 - k).toNat ∧ lvO κ (κ 125 0 - k).toNat ≤ 4 := by unfold lvO; split <;> omega
        refine z_iastore (pc := 52) dX9_findBest_52 ly_50 ip_50 (by omega) (by omega) ?_
        refine s_iconst_0 (pc := 53) dX9_findBest_53 ?_
        refine s_istore_5 (pc := 54) dX9_findBest_54 (Nat.le_of_ble_eq_true rfl) rfl ?_
        refine s_le ?_ (lp_X9_best2 (wh := κ 49 p) (wl := κ 50 p) (k := k) (μ := μ) (s := bstL κ p (κ 125 0 - k).toNat) hko hp hp2 hLv ?_ 17 0 c _ (by omega) (by have := pw_small r125; omega) (hF.wr (by decide)) (way_MR5 hM hLv) ?_ (by have := pw_small r125; omega))
        · exact ⟨Or.inr rfl, Or.inr rfl, Or.inr rfl, Or.inr rfl, Or.inr rfl, Or.inr rfl, Or.inl rfl, Or.inl rfl, trivial⟩
        · intro ν2 c2 hF2 hM2 hB2
          refine s_iinc_4 (pc := 129) dX9_findBest_129 (Nat.le_of_ble_eq_true rfl) rfl ?_
          refine s_goto (pc := 132) 27 dX9_findBest_132 rfl ?_
          refine ih (k - 1) _ c2 ν2 (by omega) (by omega) hF2 hM2 ?_ (by omega)
          rw [show (κ 125 0 - (k - 1)).toNat = (κ 125 0 - k).toNat + 1 by omega]
          exact hB2
        · rcases hB with ⟨q1, q2⟩ | ⟨q1, q2, q3, q4, q5, q6⟩
          · exact Or.inl ⟨q1, by rw [wr_n (by decide)]; exact q2⟩
          · exact Or.inr ⟨q1, q2, by rw [wr_n (by decide)]; exact q3, by rw [wr_n (by decide)]; exact q4, by rw [wr_n (by decide)]; exact q5, q6⟩
      · refine s_iconst_4 (pc := 46) dX9_findBest_46 ?_
        refine s_goto (pc := 47) 52 dX9_findBest_47 rfl ?_
        refine s_valI (y := lvO κ (κ 125 0 - k).toNat) (by unfold lvO; first | (rw [if_pos (by omega)]; done) | (rw [if_neg (by omega)]; omega)) ?_
        have hLv : 0 ≤ lvO κ (κ 125 0 - k).toNat ∧ lvO κ (κ 125 0 - k).toNat ≤ 4 := by unfold lvO; split <;> omega
        refine z_iastore (pc := 52) dX9_findBest_52 ly_50 ip_50 (by omega) (by omega) ?_
        refine s_iconst_0 (pc := 53) dX9_findBest_53 ?_
        refine s_istore_5 (pc := 54) dX9_findBest_54 (Nat.le_of_ble_eq_true rfl) rfl ?_
        refine s_le ?_ (lp_X9_best2 (wh := κ 49 p) (wl := κ 50 p) (k := k) (μ := μ) (s := bstL κ p (κ 125 0 - k).toNat) hko hp hp2 hLv ?_ 17 0 c _ (by omega) (by have := pw_small r125; omega) (hF.wr (by decide)) (way_MR5 hM hLv) ?_ (by have := pw_small r125; omega))
        · exact ⟨Or.inr rfl, Or.inr rfl, Or.inr rfl, Or.inr rfl, Or.inr rfl, Or.inr rfl, Or.inl rfl, Or.inl rfl, trivial⟩
        · intro ν2 c2 hF2 hM2 hB2
          refine s_iinc_4 (pc := 129) dX9_findBest_129 (Nat.le_of_ble_eq_true rfl) rfl ?_
          refine s_goto (pc := 132) 27 dX9_findBest_132 rfl ?_
          refine ih (k - 1) _ c2 ν2 (by omega) (by omega) hF2 hM2 ?_ (by omega)
          rw [show (κ 125 0 - (k - 1)).toNat = (κ 125 0 - k).toNat + 1 by omega]
          exact hB2
        · rcases hB with ⟨q1, q2⟩ | ⟨q1, q2, q3, q4, q5, q6⟩
          · exact Or.inl ⟨q1, by rw [wr_n (by decide)]; exact q2⟩
          · exact Or.inr ⟨q1, q2, by rw [wr_n (by decide)]; exact q3, by rw [wr_n (by decide)]; exact q4, by rw [wr_n (by decide)]; exact q5, q6⟩
theorem c_X9_findBest {κ : Mem} {p : Int} {μ : Mem} (hM : MR κ μ) (hko : KO κ) (hp : 0 ≤ p ∧ p < κ 129 0) (hp2 : p < κ 124 0) : Mc kX9_findBest [.inr (.inr 9), .inl p] μ (pV (fun ν => Fr [49, 50, 53, 54, 131, 132, 133] μ ν ∧ MR κ ν ∧ RB κ ν (best κ p))) := by
  refine Mc_of (by decide +kernel) (fun _ => Nat.le_of_ble_eq_true rfl) ?_
  show AW kX9_findBest 0 [some (.inr (.inr 9)), some (.inl p), none, none, none, none, none, none] [] μ _
  obtain ⟨⟨r129, r125, r126, r127, r128, r130, rP, r124, r44⟩, m129, m125, m126, m127, m128, m130, mP, m124, m44⟩ := id hM
  obtain ⟨m49, m50, m51, m52⟩ := mP p hp.1 (by omega)
  refine s_aload_0 (pc := 0) dX9_findBest_0 ?_
  refine gfX9_40 (pc := 1) dX9_findBest_1 rfl ?_
  refine s_iload_1 (pc := 4) dX9_findBest_4 ?_
  refine z_iaload (pc := 5) dX9_findBest_5 ly_49 (by omega) (by omega) ?_
  try simp (decide := true) only [wr_s, wr_n, wa_s, wa_n, mg_i, mg_o, if_true, eq_self, reduceIte]
  rw [m49]
  refine s_istore_2 (pc := 6) dX9_findBest_6 (Nat.le_of_ble_eq_true rfl) rfl ?_
  refine s_aload_0 (pc := 7) dX9_findBest_7 ?_
  refine gfX9_43 (pc := 8) dX9_findBest_8 rfl ?_
  refine s_iload_1 (pc := 11) dX9_findBest_11 ?_
  refine z_iaload (pc := 12) dX9_findBest_12 ly_50 (by omega) (by omega) ?_
  try simp (decide := true) only [wr_s, wr_n, wa_s, wa_n, mg_i, mg_o, if_true, eq_self, reduceIte]
  rw [m50]
  refine s_istore_3 (pc := 13) dX9_findBest_13 (Nat.le_of_ble_eq_true rfl) rfl ?_
  refine s_aload_0 (pc := 14) dX9_findBest_14 ?_
  refine s_ldc2_w (pc := 15) dX9_findBest_15 rfl cnX9_264 ?_
  refine pfX9_266 (pc := 18) dX9_findBest_18 rfl ?_
  refine s_aload_0 (pc := 21) dX9_findBest_21 ?_
  refine gfX9_129 (pc := 22) dX9_findBest_22 rfl ?_
  try simp (decide := true) only [wr_s, wr_n, wa_s, wa_n, mg_i, mg_o, if_true, eq_self, reduceIte]
  refine s_istore_4 (pc := 25) dX9_findBest_25 (Nat.le_of_ble_eq_true rfl) rfl ?_
  rw [m125]
  refine lp_X9_best1 hko hp hp2 6 (κ 125 0) (κ 50 p) (κ 49 p) _ (by omega) (by omega) (Fr.rf.wr (by decide)) (by rw [way_id]; exact hM.frB (Fr.rf.wr (by decide) : Fr [133] μ _) (by decide)) ?_ (by omega)
  rw [show (κ 125 0 - κ 125 0).toNat = 0 by omega]
  exact Or.inl ⟨(by decide : (-1 : Int) < 0), by rw [wr_s, if_pos rfl]⟩
