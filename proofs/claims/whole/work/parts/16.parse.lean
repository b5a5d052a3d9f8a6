/-! ===== what a text tells ===== -/
/-- the sign at a place; -1 behind the end -/
def hr (tx : Int → Int) (n a : Int) : Int := if a < n then tx a else -1
/-- a figure of 0 to hi stands there -/
abbrev fg (tx : Int → Int) (n a hi : Int) : Prop := 48 ≤ hr tx n a ∧ hr tx n a ≤ 48 + hi

/-- where the reading stands, people, tales, laws, persons, how funny -/
abbrev PS : Type := Int × Int × Int × (Int → Int) × (Int → Int) × (Int → Int)
/-- how many of the four figures at a, a + 1 .. stand -/
def f4 (tx : Int → Int) (n a : Int) : Int := if fg tx n a 9 then (if fg tx n (a + 1) 9 then (if fg tx n (a + 2) 9 then (if fg tx n (a + 3) 9 then 4 else 3) else 2) else 1) else 0
def upF (f : Int → Int) (k z : Int) : Int → Int := fun j => if j = k then z else f j
def up4 (f : Int → Int) (b : Int) (tx : Int → Int) (n a : Int) : Int → Int := fun j => if b ≤ j ∧ j < b + 4 then hr tx n (a + (j - b)) - 48 else f j
def ruleF (tx : Int → Int) (n : Int) (s : PS) (w hi : Int) : Int ⊕ PS := if fg tx n (s.1 + 1) hi then .inr (s.1 + 2, s.2.1, s.2.2.1, upF s.2.2.2.1 w (hr tx n (s.1 + 1) - 48), s.2.2.2.2.1, s.2.2.2.2.2) else .inl (s.1 + 1)
def personF (tx : Int → Int) (n : Int) (s : PS) : Int ⊕ PS := if s.2.1 = 4 then .inl s.1 else if f4 tx n (s.1 + 1) = 4 then .inr (s.1 + 5, s.2.1 + 1, s.2.2.1, s.2.2.2.1, up4 s.2.2.2.2.1 (4 * s.2.1) tx n (s.1 + 1), s.2.2.2.2.2) else .inl (s.1 + 1 + f4 tx n (s.1 + 1))
def taleF (tx : Int → Int) (n : Int) (s : PS) : Int ⊕ PS := if s.2.2.1 = 4 then .inl s.1 else if fg tx n (s.1 + 1) 9 then .inr (s.1 + 2, s.2.1, s.2.2.1 + 1, s.2.2.2.1, s.2.2.2.2.1, upF s.2.2.2.2.2 s.2.2.1 (hr tx n (s.1 + 1) - 48)) else .inl (s.1 + 1)
def partF (tx : Int → Int) (n : Int) (s : PS) : Int ⊕ PS :=
  if hr tx n s.1 = 112 then personF tx n s else if hr tx n s.1 = 116 then taleF tx n s else if hr tx n s.1 = 108 then ruleF tx n s 0 2 else if hr tx n s.1 = 109 then ruleF tx n s 1 2 else if hr tx n s.1 = 111 then ruleF tx n s 2 3 else .inl s.1
def partsF (tx : Int → Int) (n : Int) : Nat → PS → Int ⊕ PS
  | 0, s => .inl s.1
  | f + 1, s => match partF tx n s with
    | .inl a => .inl a
    | .inr t => if n ≤ t.1 then .inr t else if hr tx n t.1 = 59 then partsF tx n f (t.1 + 1, t.2) else .inl t.1
def s0 : PS := (0, 0, 0, fun _ => 0, fun _ => 0, fun _ => 0)
def resF (tx : Int → Int) (n : Int) : Int ⊕ PS := if n ≤ 0 then .inr s0 else partsF tx n 60 s0
def pFa (tx : Int → Int) (n : Int) : Int := match resF tx n with
  | .inl a => a
  | .inr _ => -1
def pEnd (tx : Int → Int) (n : Int) : PS := match resF tx n with
  | .inl _ => s0
  | .inr t => t
def pPe (tx : Int → Int) (n : Int) : Int := (pEnd tx n).2.1
def pTa (tx : Int → Int) (n : Int) : Int := (pEnd tx n).2.2.1
def pLa (tx : Int → Int) (n : Int) : Int → Int := (pEnd tx n).2.2.2.1
def pPr (tx : Int → Int) (n : Int) : Int → Int := (pEnd tx n).2.2.2.2.1
def pFu (tx : Int → Int) (n : Int) : Int → Int := (pEnd tx n).2.2.2.2.2
/-- who owes it at first -/
def pOw (tx : Int → Int) (n : Int) : Int := if pPe tx n ≤ pLa tx n 2 then 0 else pLa tx n 2
theorem f4_in {tx : Int → Int} {n a : Int} : 0 ≤ f4 tx n a ∧ f4 tx n a ≤ 4 := by
  unfold f4
  repeat' split
  all_goals omega
/-- the first figure that is wanting -/
theorem f4_lt {tx : Int → Int} {n a k : Int} (h0 : 0 ≤ k) (h4 : k < 4) (hv : ∀ j : Int, 0 ≤ j → j < k → fg tx n (a + j) 9) (hn : ¬ fg tx n (a + k) 9) : f4 tx n a = k := by
  unfold f4
  have e0 : k ≠ 0 → fg tx n a 9 := fun q => by have := hv 0 (by omega) (by omega); rwa [show a + 0 = a by omega] at this
  have e1 : k ≠ 0 → k ≠ 1 → fg tx n (a + 1) 9 := fun q r => hv 1 (by omega) (by omega)
  have e2 : k = 3 → fg tx n (a + 2) 9 := fun q => hv 2 (by omega) (by omega)
  rcases (show k = 0 ∨ k = 1 ∨ k = 2 ∨ k = 3 by omega) with rfl | rfl | rfl | rfl
  · rw [show a + 0 = a by omega] at hn
    rw [if_neg hn]
  · rw [if_pos (e0 (by omega)), if_neg hn]
  · rw [if_pos (e0 (by omega)), if_pos (e1 (by omega) (by omega)), if_neg hn]
  · rw [if_pos (e0 (by omega)), if_pos (e1 (by omega) (by omega)), if_pos (e2 rfl), if_neg hn]
theorem f4_all {tx : Int → Int} {n a : Int} (hv : ∀ j : Int, 0 ≤ j → j < 4 → fg tx n (a + j) 9) : f4 tx n a = 4 := by
  unfold f4
  have e0 := hv 0 (by omega) (by omega)
  rw [show a + 0 = a by omega] at e0
  rw [if_pos e0, if_pos (hv 1 (by omega) (by omega)), if_pos (hv 2 (by omega) (by omega)), if_pos (hv 3 (by omega) (by omega))]
theorem f4_4 {tx : Int → Int} {n a : Int} (h : f4 tx n a = 4) : ∀ j : Int, 0 ≤ j → j < 4 → fg tx n (a + j) 9 := by
  unfold f4 at h
  split at h
  · split at h
    · split at h
      · split at h
        · intro j h0 h1
          rcases (show j = 0 ∨ j = 1 ∨ j = 2 ∨ j = 3 by omega) with rfl | rfl | rfl | rfl
          · rw [show a + 0 = a by omega]; assumption
          · assumption
          · assumption
          · assumption
        · omega
      · omega
    · omega
  · omega
/-- what holds of a reading on its way -/
def PSok (n : Int) (s : PS) : Prop := 0 ≤ s.1 ∧ s.1 ≤ n ∧ 0 ≤ s.2.1 ∧ s.2.1 ≤ 4 ∧ 0 ≤ s.2.2.1 ∧ s.2.2.1 ≤ 4 ∧ (0 ≤ s.2.2.2.1 0 ∧ s.2.2.2.1 0 ≤ 2 ∧ 0 ≤ s.2.2.2.1 1 ∧ s.2.2.2.1 1 ≤ 2 ∧ 0 ≤ s.2.2.2.1 2 ∧ s.2.2.2.1 2 ≤ 3) ∧ (∀ k, 0 ≤ k → k < 4 * s.2.1 → 0 ≤ s.2.2.2.2.1 k ∧ s.2.2.2.2.1 k ≤ 9) ∧ (∀ k, 0 ≤ k → k < s.2.2.1 → 0 ≤ s.2.2.2.2.2 k ∧ s.2.2.2.2.2 k ≤ 9)
theorem fg_lt {tx : Int → Int} {n a hi : Int} (h : fg tx n a hi) : a < n := by
  unfold fg hr at h
  split at h
  · assumption
  · omega
theorem ruleF_ok {tx : Int → Int} {n : Int} {s t : PS} {w hi : Int} (h : PSok n s) (hw : w = 0 ∧ hi = 2 ∨ w = 1 ∧ hi = 2 ∨ w = 2 ∧ hi = 3) (e : ruleF tx n s w hi = .inr t) : PSok n t ∧ s.1 + 2 ≤ t.1 := by
  unfold ruleF at e
  split at e
  · rename_i hf
    cases e
    have h1 := fg_lt hf
    unfold fg at hf
    obtain ⟨a1, a2, a3, a4, a5, a6, a7, a8, a9⟩ := h
    refine ⟨⟨by dsimp only; omega, by dsimp only; omega, a3, a4, a5, a6, ?_, a8, a9⟩, by dsimp only; omega⟩
    dsimp only [upF]
    omega
  · cases e
theorem personF_ok {tx : Int → Int} {n : Int} {s t : PS} (h : PSok n s) (e : personF tx n s = .inr t) : PSok n t ∧ s.1 + 2 ≤ t.1 := by
  unfold personF at e
  split at e
  · cases e
  · split at e
    · rename_i h4 hf
      cases e
      have hv := f4_4 hf
      have h3 := fg_lt (hv 3 (by omega) (by omega))
      obtain ⟨a1, a2, a3, a4, a5, a6, a7, a8, a9⟩ := h
      refine ⟨⟨by dsimp only; omega, by dsimp only; omega, by dsimp only; omega, by dsimp only; omega, a5, a6, a7, ?_, a9⟩, by dsimp only; omega⟩
      intro k k0 k1
      dsimp only [up4] at k1 ⊢
      by_cases hk : 4 * s.2.1 ≤ k ∧ k < 4 * s.2.1 + 4
      · rw [if_pos hk]
        have := hv (k - 4 * s.2.1) (by omega) (by omega)
        unfold fg at this
        omega
      · rw [if_neg hk]
        exact a8 k k0 (by omega)
    · cases e
theorem taleF_ok {tx : Int → Int} {n : Int} {s t : PS} (h : PSok n s) (e : taleF tx n s = .inr t) : PSok n t ∧ s.1 + 2 ≤ t.1 := by
  unfold taleF at e
  split at e
  · cases e
  · split at e
    · rename_i h4 hf
      cases e
      have h1 := fg_lt hf
      unfold fg at hf
      obtain ⟨a1, a2, a3, a4, a5, a6, a7, a8, a9⟩ := h
      refine ⟨⟨by dsimp only; omega, by dsimp only; omega, a3, a4, by dsimp only; omega, by dsimp only; omega, a7, a8, ?_⟩, by dsimp only; omega⟩
      intro k k0 k1
      dsimp only [upF] at k1 ⊢
      by_cases hk : k = s.2.2.1
      · rw [if_pos hk]; omega
      · rw [if_neg hk]
        exact a9 k k0 (by omega)
    · cases e
theorem partF_ok {tx : Int → Int} {n : Int} {s t : PS} (h : PSok n s) (e : partF tx n s = .inr t) : PSok n t ∧ s.1 + 2 ≤ t.1 := by
  unfold partF at e
  split at e
  · exact personF_ok h e
  split at e
  · exact taleF_ok h e
  split at e
  · exact ruleF_ok h (by omega) e
  split at e
  · exact ruleF_ok h (by omega) e
  split at e
  · exact ruleF_ok h (by omega) e
  · cases e
theorem partsF_ok {tx : Int → Int} {n : Int} : ∀ (f : Nat) {s t : PS}, PSok n s → partsF tx n f s = .inr t → PSok n t
  | 0, s, t, _, e => by cases e
  | f + 1, s, t, h, e => by
    unfold partsF at e
    split at e
    · cases e
    · rename_i u hu
      have h1 := partF_ok h hu
      split at e
      · cases e; exact h1.1
      · split at e
        · refine partsF_ok f (s := (u.1 + 1, u.2)) ?_ e
          obtain ⟨a1, a2, a3⟩ := h1.1
          exact ⟨by dsimp only; omega, by dsimp only; omega, a3⟩
        · cases e
theorem s0_ok {n : Int} (h : 0 ≤ n) : PSok n s0 := by
  refine ⟨Int.le_refl 0, h, Int.le_refl 0, by decide, Int.le_refl 0, by decide, by decide, fun k h0 h1 => ?_, fun k h0 h1 => ?_⟩
  · dsimp only [s0] at h1; omega
  · dsimp only [s0] at h1; omega
theorem pEnd_ok {tx : Int → Int} {n : Int} (h : 0 ≤ n) : PSok n (pEnd tx n) := by
  unfold pEnd
  split
  · exact s0_ok h
  · rename_i t ht
    unfold resF at ht
    split at ht
    · cases ht; exact s0_ok h
    · exact partsF_ok 60 (s0_ok h) ht
theorem pPe_in {tx : Int → Int} {n : Int} (h : 0 ≤ n) : 0 ≤ pPe tx n ∧ pPe tx n ≤ 4 := ⟨(pEnd_ok h).2.2.1, (pEnd_ok h).2.2.2.1⟩
theorem pTa_in {tx : Int → Int} {n : Int} (h : 0 ≤ n) : 0 ≤ pTa tx n ∧ pTa tx n ≤ 4 := ⟨(pEnd_ok h).2.2.2.2.1, (pEnd_ok h).2.2.2.2.2.1⟩
theorem pLa_in {tx : Int → Int} {n : Int} (h : 0 ≤ n) : 0 ≤ pLa tx n 0 ∧ pLa tx n 0 ≤ 2 ∧ 0 ≤ pLa tx n 1 ∧ pLa tx n 1 ≤ 2 ∧ 0 ≤ pLa tx n 2 ∧ pLa tx n 2 ≤ 3 := (pEnd_ok h).2.2.2.2.2.2.1
theorem pPr_in {tx : Int → Int} {n : Int} (h : 0 ≤ n) {k : Int} (h0 : 0 ≤ k) (h1 : k < 4 * pPe tx n) : 0 ≤ pPr tx n k ∧ pPr tx n k ≤ 9 := (pEnd_ok h).2.2.2.2.2.2.2.1 k h0 h1
theorem pFu_in {tx : Int → Int} {n : Int} (h : 0 ≤ n) {k : Int} (h0 : 0 ≤ k) (h1 : k < pTa tx n) : 0 ≤ pFu tx n k ∧ pFu tx n k ≤ 9 := (pEnd_ok h).2.2.2.2.2.2.2.2 k h0 h1
/-- the cells outside F are as they were -/
def Fr (F : List Nat) (μ ν : Mem) : Prop := ∀ c, c ∉ F → ν c = μ c
theorem Fr.rf {F : List Nat} {μ : Mem} : Fr F μ μ := fun _ _ => rfl
theorem Fr.tr {F : List Nat} {μ ν ρ : Mem} (h1 : Fr F μ ν) (h2 : Fr F ν ρ) : Fr F μ ρ := fun c hc => (h2 c hc).trans (h1 c hc)
theorem Fr.mono {F E : List Nat} {μ ν : Mem} (h : Fr F μ ν) (hs : ∀ c, c ∈ F → c ∈ E) : Fr E μ ν := fun c hc => h c (fun q => hc (hs c q))
theorem Fr.wr {F : List Nat} {μ ν : Mem} {c : Nat} {k z : Int} (h : Fr F μ ν) (hc : c ∈ F) : Fr F μ (wr ν c k z) := fun d hd => by rw [wr_nc (fun q => hd (by rw [q]; exact hc))]; exact h d hd
theorem Fr.wa {F : List Nat} {μ ν : Mem} {c : Nat} {f : Int → Int} (h : Fr F μ ν) (hc : c ∈ F) : Fr F μ (wa ν c f) := fun d hd => by rw [wa_nc (fun q => hd (by rw [q]; exact hc))]; exact h d hd
theorem Fr.at {F : List Nat} {μ ν : Mem} (h : Fr F μ ν) (c : Nat) (hc : F.contains c = false) (k : Int) : ν c k = μ c k := by
  rw [h c (fun q => by rw [List.contains_iff_mem.mpr q] at hc; cases hc)]
theorem Fr.fn {F : List Nat} {μ ν : Mem} (h : Fr F μ ν) (c : Nat) (hc : F.contains c = false) : ν c = μ c := h c (fun q => by rw [List.contains_iff_mem.mpr q] at hc; cases hc)
