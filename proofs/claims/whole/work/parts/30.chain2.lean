theorem sm_split {f : Int → Int} {a : Nat} : ∀ {b : Nat}, sm f (a + b) = sm f a + sm (fun k => f (a + k)) b
  | 0 => by show sm f a = sm f a + 0; omega
  | b + 1 => by
    show sm f (a + b) + f ((a + b : Nat) : Int) = sm f a + (sm (fun k => f (a + k)) b + f (a + b))
    rw [sm_split, Int.natCast_add]
    omega
/-- one's states -/
def bk (p k : Int) : Int := if 10 * p ≤ k ∧ k < 10 * p + 10 then 1 else 0
theorem sm_bk {f : Int → Int} {p : Int} (hp : 0 ≤ p ∧ p < 4) : sm (fun k => f (10 * p + k)) 10 = sm (fun k => bk p k * f k) 50 := by
  have h50 : (50 : Nat) = (10 * p).toNat + (10 + (40 - 10 * p).toNat) := by omega
  rw [h50, sm_split, sm_split]
  have hc : (((10 * p).toNat : Nat) : Int) = 10 * p := by omega
  rw [hc]
  rw [sm_zero (n := (10 * p).toNat) (fun k k0 k1 => by rw [bk, if_neg (by omega), Int.zero_mul])]
  rw [sm_zero (n := (40 - 10 * p).toNat) (fun k k0 k1 => by rw [bk, if_neg (by omega), Int.zero_mul])]
  rw [sm_congr (f := fun k => bk p (10 * p + k) * f (10 * p + k)) (g := fun k => f (10 * p + k)) (fun k k0 k1 => by rw [bk, if_pos (by omega), Int.one_mul])]
  omega
/-- the states that can be, behind i tales -/
def gd (law own P : Int) (i : Nat) (s : Int) : Prop := 0 ≤ s ∧ s / 10 < P ∧ ((law = 0 ∧ s % 10 = 0) ∨ (law = 1 ∧ (s % 10 = 1 ∨ s = 10 * own)) ∨ (law = 2 ∧ s % 2 = 0 ∧ s % 10 / 2 ≤ i))
def KO (κ : Mem) : Prop := KR κ ∧ κ 128 0 < κ 129 0
theorem gd_tgt {law own P s p : Int} {i : Nat} (hi : i < 4) (h : gd law own P i s) (hp : 0 ≤ p ∧ p < P) (hP : P ≤ 4) : gd law own P (i + 1) (tgt law s p) := by
  unfold gd at h ⊢
  unfold tgt
  rcases h with ⟨h0, h1, ⟨rfl, h2⟩ | ⟨rfl, h2⟩ | ⟨rfl, h2, h3⟩⟩
  · rw [if_neg (by decide)]
    rw [if_neg (by omega)]
    omega
  · rw [if_pos rfl]
    by_cases hs : s % 2 = 1
    · rw [if_pos hs]; omega
    · rw [if_neg hs]; omega
  · rw [if_neg (by decide)]
    split <;> omega
theorem gd_up {law own P s : Int} {i : Nat} (h : gd law own P i s) : gd law own P (i + 1) s := by
  unfold gd at h ⊢
  omega
theorem DD_sup {κ : Mem} (h : KO κ) : ∀ (i : Nat), i ≤ 4 → ∀ s : Int, 0 ≤ s → s < 50 → ¬ gd (κ 126 0) (κ 128 0) (κ 129 0) i s → DD κ i s = 0
  | 0, _, s, s0, s1, hn => by
    show ind s (10 * κ 128 0) = 0
    obtain ⟨⟨h1, h2, h3, h4, h5, -⟩, ho⟩ := h
    unfold gd at hn
    rw [ind, if_neg]
    intro q
    subst q
    exact hn (by omega)
  | i + 1, hi, k, k0, k1, hn => by
    have hP := h.1.1
    show stD _ _ _ _ (DD κ i) k = 0
    refine sm_zero fun s s0 s1 => ?_
    by_cases hs : gd (κ 126 0) (κ 128 0) (κ 129 0) i s
    · rw [ind, if_neg (fun q => hn (by rw [q]; exact gd_up hs)), Int.mul_zero, sm_zero (fun p p0 p1 => ?_)]
      · simp
      · rw [ind, if_neg (fun q => hn (by rw [q]; exact gd_tgt (by omega) hs ⟨p0, by omega⟩ hP.2)), Int.mul_zero]
    · rw [DD_sup h i (by omega) s s0 (by omega) hs, Int.zero_mul]
/-- chances of one, in parts of 3072 to the power of the tales -/
def OW (κ : Mem) : Nat → Int → Int × Int
  | 0, p => (ind p (κ 128 0), 1)
  | i + 1, p => if κ 126 0 = 1 then ((OW κ i p).1 * 3072 + (OW κ i p).2 * pas κ i p - (if p = κ 128 0 then (OW κ i p).2 * (3072 - sty κ i) else 0), (OW κ i p).2 * sty κ i) else ((OW κ i p).1 * sty κ i + 3072 ^ i * pas κ i p, (OW κ i p).2)
def ow (κ : Mem) (i : Nat) (p : Int) : Int := (OW κ i p).1
def opn (κ : Mem) (i : Nat) (p : Int) : Int := (OW κ i p).2
/-- the mean share of one where it is halved, in parts of 6144 to the power of the tales -/
def AH (κ : Mem) : Nat → Int → Int
  | 0 => fun p => ind p (κ 128 0)
  | i + 1 => fun p => 2 * AH κ i p * (sty κ i + pas κ i p) + (sm (AH κ i) (κ 129 0).toNat - AH κ i p) * pas κ i p
/-- AMOUNT, in parts of 6144 to the power of the tales -/
def am (κ : Mem) (p : Int) : Int := if κ 126 0 = 2 then AH κ (κ 125 0).toNat p else ow κ (κ 125 0).toNat p * (2 : Int) ^ (κ 125 0).toNat
/-- .. by sixteen, in parts of 3072 -/
def EE (κ : Mem) (i : Nat) (p : Int) : Int := sm (fun k => DD κ i (10 * p + k) * (16 / (2 : Int) ^ (k / 2).toNat)) 10
def ww (k : Int) : Int := 16 / (2 : Int) ^ (k % 10 / 2).toNat
theorem EE_bk {κ : Mem} {i : Nat} {p : Int} (hp : 0 ≤ p ∧ p < 4) : EE κ i p = sm (fun k => bk p k * ww k * DD κ i k) 50 := by
  unfold EE
  have h1 := sm_bk (f := fun k => ww k * DD κ i k) hp
  refine Eq.trans (sm_congr fun k k0 k1 => ?_) (h1.trans (sm_congr fun k _ _ => ?_))
  · unfold ww
    rw [show (10 * p + k) % 10 = k by omega, Int.mul_comm]
  · rw [Int.mul_assoc]
theorem ow_bk {κ : Mem} (h : KO κ) : ∀ i : Nat, i ≤ 4 → ∀ p : Int, 0 ≤ p → p < κ 129 0 → ow κ i p = sm (fun k => bk p k * DD κ i k) 50 ∧ (κ 126 0 = 1 → opn κ i p = DD κ i (10 * κ 128 0))
  | 0, _, p, p0, p1 => by
    have h5 := h.1.2.2.2.2.1
    have h1 := h.1.1
    refine ⟨?_, fun _ => ?_⟩
    · show ind p (κ 128 0) = sm (fun k => bk p k * ind k (10 * κ 128 0)) 50
      rw [sm_ind (by omega) (by omega)]
      unfold ind bk
      split <;> split <;> omega
    · show 1 = ind (10 * κ 128 0) (10 * κ 128 0)
      unfold ind
      rw [if_pos rfl]
  | i + 1, hi, p, p0, p1 => by
    have hk := h.1
    have h5 := hk.2.2.2.2.1
    have h1 := hk.1
    have hlaw := hk.2.2.1
    have hP : (κ 129 0).toNat ≤ 4 := by omega
    obtain ⟨ih1, ih2⟩ := ow_bk h i (by omega) p p0 p1
    have hd : sm (fun k => bk p k * DD κ (i + 1) k) 50 = _ := stD_dual (law := κ 126 0) (A := sty κ i) (B := pas κ i) (D := DD κ i) (g := bk p) hP
    have hsup := DD_sup h i (by omega)
    rw [hd]
    have hpi : ∀ f : Int → Int, sm (fun q => f q * ind q p) (κ 129 0).toNat = f p := fun f => sm_ind p0 (by omega)
    by_cases h1l : κ 126 0 = 1
    · refine ⟨?_, fun _ => ?_⟩
      · show (OW κ (i + 1) p).1 = _
        rw [OW, if_pos h1l]
        show ow κ i p * 3072 + opn κ i p * pas κ i p - (if p = κ 128 0 then opn κ i p * (3072 - sty κ i) else 0) = _
        rw [ih1, ih2 h1l]
        refine Eq.trans ?_ (sm_congr (f := fun s => 3072 * (bk p s * DD κ i s) + (pas κ i p - (if p = κ 128 0 then 3072 - sty κ i else 0)) * (DD κ i s * ind s (10 * κ 128 0))) (fun s s0 s1 => ?_))
        · rw [sm_add, sm_mul, sm_mul, sm_ind (by omega) (by omega)]
          generalize sm (fun k => bk p k * DD κ i k) 50 = x
          generalize DD κ i (10 * κ 128 0) = y
          generalize sty κ i = z
          split <;> grind
        · refine Eq.symm ?_
          by_cases hs : gd (κ 126 0) (κ 128 0) (κ 129 0) i s
          · have hss := st_sum hk (i := i)
            unfold gd at hs
            by_cases ho : s % 10 = 1
            · have ht : ∀ q : Int, tgt (κ 126 0) s q = s := fun q => by rw [tgt, if_pos h1l, if_pos (by omega)]
              rw [sm_congr (g := fun q => bk p s * pas κ i q) (fun q _ _ => by rw [ht, Int.mul_comm]), sm_mul, ind, if_neg (show ¬ s = 10 * κ 128 0 by omega)]
              rw [show sm (fun p => pas κ i p) (κ 129 0).toNat = 3072 - sty κ i by omega]
              grind
            · have hso : s = 10 * κ 128 0 := by omega
              have ht : ∀ q : Int, tgt (κ 126 0) s q = 10 * q + 1 := fun q => by rw [tgt, if_pos h1l, if_neg (by omega)]; omega
              rw [sm_congr (g := fun q => pas κ i q * ind q p) (fun q q0 q1 => by
                rw [ht]
                unfold bk ind
                split <;> split <;> first | rfl | omega), hpi]
              rw [ind, if_pos hso]
              have hb : bk p s = if p = κ 128 0 then 1 else 0 := by
                unfold bk
                split <;> split <;> omega
              rw [hb]
              split <;> grind
          · rw [hsup s s0 (by omega) hs]
            simp
      · show (OW κ (i + 1) p).2 = _
        rw [OW, if_pos h1l]
        show opn κ i p * sty κ i = stD (κ 126 0) (κ 129 0).toNat (sty κ i) (pas κ i) (DD κ i) (10 * κ 128 0)
        rw [ih2 h1l]
        unfold stD
        refine Eq.trans ?_ (sm_congr (f := fun s => sty κ i * (DD κ i s * ind s (10 * κ 128 0))) (fun s s0 s1 => ?_))
        · rw [sm_mul, sm_ind (by omega) (by omega), Int.mul_comm]
        refine Eq.symm ?_
        by_cases hs : gd (κ 126 0) (κ 128 0) (κ 129 0) i s
        · unfold gd at hs
          rw [sm_zero (n := (κ 129 0).toNat) (fun q q0 q1 => ?_)]
          · unfold ind
            split <;> split <;> first | grind | omega
          · rw [ind, if_neg, Int.mul_zero]
            rw [tgt, if_pos h1l]
            split <;> omega
        · rw [hsup s s0 (by omega) hs]
          simp
    · refine ⟨?_, fun q => absurd q h1l⟩
      show (OW κ (i + 1) p).1 = _
      rw [OW, if_neg h1l]
      show ow κ i p * sty κ i + 3072 ^ i * pas κ i p = _
      rw [ih1]
      refine Eq.trans ?_ (sm_congr (f := fun s => sty κ i * (bk p s * DD κ i s) + pas κ i p * DD κ i s) (fun s s0 s1 => ?_))
      · rw [sm_add, sm_mul, sm_mul, DD_sum hk i]
        generalize sm (fun k => bk p k * DD κ i k) 50 = x
        grind
      · refine Eq.symm ?_
        by_cases hs : gd (κ 126 0) (κ 128 0) (κ 129 0) i s
        · rw [sm_congr (g := fun q => pas κ i q * ind q p) (fun q q0 q1 => by
            unfold gd at hs
            rw [tgt, if_neg h1l]
            unfold bk ind
            split <;> split <;> split <;> first | rfl | omega), hpi]
          grind
        · rw [hsup s s0 (by omega) hs]
          simp
/-- halved: twice one's share by sixteen, one tale on -/
theorem EE_up {κ : Mem} (h : KO κ) (hl : κ 126 0 = 2) {i : Nat} (hi : i < 4) {p : Int} (p0 : 0 ≤ p) (p1 : p < κ 129 0) : 2 * EE κ (i + 1) p = 2 * sty κ i * EE κ i p + pas κ i p * (EE κ i p + sm (EE κ i) (κ 129 0).toNat) := by
  have hk := h.1
  have h1 := hk.1
  have hP : (κ 129 0).toNat ≤ 4 := by omega
  have hsup := DD_sup h i (by omega)
  have hw : sm (EE κ i) (κ 129 0).toNat = sm (fun s => ww s * DD κ i s) 50 := by
    rw [sm_congr (g := fun q => sm (fun k => bk q k * ww k * DD κ i k) 50) (fun q q0 q1 => EE_bk ⟨q0, by omega⟩), sm_swap]
    refine sm_congr fun s s0 s1 => ?_
    by_cases hs : gd (κ 126 0) (κ 128 0) (κ 129 0) i s
    · unfold gd at hs
      rw [sm_congr (g := fun q => (ww s * DD κ i s) * ind q (s / 10)) (fun q q0 q1 => ?_), sm_ind (f := fun _ => ww s * DD κ i s) (by omega) (by omega)]
      unfold bk ind
      split <;> split <;> first | grind | omega
    · rw [hsup s s0 (by omega) hs]
      rw [sm_zero (fun q _ _ => Int.mul_zero _), Int.mul_zero]
  rw [hw, EE_bk ⟨p0, by omega⟩, EE_bk ⟨p0, by omega⟩]
  have hd : sm (fun k => bk p k * ww k * DD κ (i + 1) k) 50 = _ := stD_dual (law := κ 126 0) (A := sty κ i) (B := pas κ i) (D := DD κ i) (g := fun k => bk p k * ww k) hP
  rw [hd, ← sm_mul]
  refine Eq.trans (sm_congr (g := fun s => 2 * sty κ i * (bk p s * ww s * DD κ i s) + pas κ i p * (bk p s * ww s * DD κ i s + ww s * DD κ i s)) (fun s s0 s1 => ?_)) ?_
  · by_cases hs : gd (κ 126 0) (κ 128 0) (κ 129 0) i s
    · unfold gd at hs
      have hh : s % 10 / 2 = 0 ∨ s % 10 / 2 = 1 ∨ s % 10 / 2 = 2 ∨ s % 10 / 2 = 3 := by omega
      have ht : ∀ q : Int, tgt (κ 126 0) s q = 10 * q + 2 * (s % 10 / 2 + (if q = s / 10 then 0 else 1)) := fun q => by
        rw [tgt, if_neg (by omega)]
        split <;> split <;> omega
      have hwt : ∀ q : Int, 0 ≤ q → q < 4 → 2 * (bk p (tgt (κ 126 0) s q) * ww (tgt (κ 126 0) s q)) = (bk p s * ww s + ww s) * ind q p := by
        intro q q0 q1
        rw [ht]
        unfold ww
        rcases hh with e | e | e | e <;> rw [e] <;> (unfold bk ind; split <;> split <;> (try split) <;> (try split) <;> first | (exfalso; omega; done) | skip)
        all_goals first | (rw [show (10 * q + 2 * (0 + 0)) % 10 / 2 = 0 by omega]; decide) | skip
        all_goals first | (rw [show (10 * q + 2 * (0 + 1)) % 10 / 2 = 1 by omega]; decide) | skip
        all_goals first | (rw [show (10 * q + 2 * (1 + 0)) % 10 / 2 = 1 by omega]; decide) | skip
        all_goals first | (rw [show (10 * q + 2 * (1 + 1)) % 10 / 2 = 2 by omega]; decide) | skip
        all_goals first | (rw [show (10 * q + 2 * (2 + 0)) % 10 / 2 = 2 by omega]; decide) | skip
        all_goals first | (rw [show (10 * q + 2 * (2 + 1)) % 10 / 2 = 3 by omega]; decide) | skip
        all_goals first | (rw [show (10 * q + 2 * (3 + 0)) % 10 / 2 = 3 by omega]; decide) | skip
        all_goals first | (rw [show (10 * q + 2 * (3 + 1)) % 10 / 2 = 4 by omega]; decide) | skip
        all_goals simp
      have hx : 2 * sm (fun q => pas κ i q * (bk p (tgt (κ 126 0) s q) * ww (tgt (κ 126 0) s q))) (κ 129 0).toNat = (bk p s * ww s + ww s) * pas κ i p := by
        rw [← sm_mul, sm_congr (g := fun q => (bk p s * ww s + ww s) * (pas κ i q * ind q p)) (fun q q0 q1 => ?_), sm_mul, sm_ind p0 (by omega)]
        have := hwt q q0 (by omega)
        generalize bk p (tgt (κ 126 0) s q) * ww (tgt (κ 126 0) s q) = x at this ⊢
        grind
      generalize sm (fun q => pas κ i q * (bk p (tgt (κ 126 0) s q) * ww (tgt (κ 126 0) s q))) (κ 129 0).toNat = x at hx ⊢
      grind
    · rw [hsup s s0 (by omega) hs]
      simp
  · rw [sm_add, sm_mul, sm_mul, sm_add]
theorem AH_EE {κ : Mem} (h : KO κ) (hl : κ 126 0 = 2) : ∀ i : Nat, i ≤ 4 → ∀ p : Int, 0 ≤ p → p < κ 129 0 → 16 * AH κ i p = 2 ^ i * EE κ i p
  | 0, _, p, p0, p1 => by
    have h5 := h.1.2.2.2.2.1
    have h1 := h.1.1
    rw [EE_bk ⟨p0, by omega⟩]
    show 16 * ind p (κ 128 0) = 1 * sm (fun k => bk p k * ww k * ind k (10 * κ 128 0)) 50
    rw [sm_ind (f := fun k => bk p k * ww k) (by omega) (by omega)]
    have hw : ww (10 * κ 128 0) = 16 := by
      unfold ww
      rw [show 10 * κ 128 0 % 10 / 2 = 0 by omega]
      decide
    rw [hw]
    unfold ind bk
    split <;> split <;> omega
  | i + 1, hi, p, p0, p1 => by
    have ih := AH_EE h hl i (by omega)
    have hu := EE_up h hl (i := i) (by omega) p0 p1
    have hs : 16 * sm (AH κ i) (κ 129 0).toNat = 2 ^ i * sm (EE κ i) (κ 129 0).toNat := by
      rw [← sm_mul, ← sm_mul]
      exact sm_congr fun q q0 q1 => ih q q0 (by omega)
    have hp := ih p p0 p1
    show 16 * (2 * AH κ i p * (sty κ i + pas κ i p) + (sm (AH κ i) (κ 129 0).toNat - AH κ i p) * pas κ i p) = 2 ^ (i + 1) * EE κ (i + 1) p
    rw [Int.pow_succ]
    generalize sm (AH κ i) (κ 129 0).toNat = a at hs ⊢
    generalize sm (EE κ i) (κ 129 0).toNat = b at hs hu
    generalize EE κ (i + 1) p = c at hu ⊢
    generalize EE κ i p = d at hp hu
    generalize AH κ i p = e at hp ⊢
    generalize (2 : Int) ^ i = f at hp hs ⊢
    generalize sty κ i = g at hu ⊢
    generalize pas κ i p = j at hu ⊢
    grind
/-- 2 to the power of 4 less the tales -/
def sc (κ : Mem) : Int := (2 : Int) ^ (4 - κ 125 0).toNat
theorem sc_in {κ : Mem} (h : KR κ) : 1 ≤ sc κ ∧ sc κ ≤ 16 ∧ (2 : Int) ^ (κ 125 0).toNat * sc κ = 16 := by
  have h2 := h.2.1
  unfold sc
  rcases (show κ 125 0 = 0 ∨ κ 125 0 = 1 ∨ κ 125 0 = 2 ∨ κ 125 0 = 3 ∨ κ 125 0 = 4 by omega) with e | e | e | e | e <;> rw [e] <;> decide
theorem EE_am {κ : Mem} (h : KO κ) {p : Int} (p0 : 0 ≤ p) (p1 : p < κ 129 0) : EE κ (κ 125 0).toNat p = am κ p * sc κ := by
  have hk := h.1
  have h1 := hk.1
  have h2 := hk.2.1
  have hs := sc_in hk
  have ht : (κ 125 0).toNat ≤ 4 := by omega
  unfold am
  by_cases hl : κ 126 0 = 2
  · rw [if_pos hl]
    have := AH_EE h hl (κ 125 0).toNat ht p p0 p1
    generalize EE κ (κ 125 0).toNat p = a at this ⊢
    generalize AH κ (κ 125 0).toNat p = b at this ⊢
    have h3 : 16 * (a - b * sc κ) = 0 := by grind
    omega
  · rw [if_neg hl]
    have h3 := (ow_bk h (κ 125 0).toNat ht p p0 p1).1
    rw [EE_bk ⟨p0, by omega⟩, sm_congr (g := fun k => 16 * (bk p k * DD κ (κ 125 0).toNat k)) (fun s s0 s1 => ?_), sm_mul, ← h3]
    · grind
    · by_cases hs : gd (κ 126 0) (κ 128 0) (κ 129 0) (κ 125 0).toNat s
      · unfold gd at hs
        have hlaw := hk.2.2.1
        have hw : ww s = 16 := by
          unfold ww
          rw [show s % 10 / 2 = 0 by omega]
          decide
        rw [hw]
        grind
      · rw [DD_sup h _ ht s s0 (by omega) hs]
        simp
