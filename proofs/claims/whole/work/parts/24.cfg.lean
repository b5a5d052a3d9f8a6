/-! ===== who sits there, at which tales, by which law: as a memory with the model's numbers ===== -/
/-- 129 people, 125 tales, 126 law, 127 several, 128 owner, 130 away, 49 holds, 50 leaves, 51 ticklish, 52 funny; 124 people of the room, 44 their figures -/
def KR (κ : Mem) : Prop := (0 ≤ κ 129 0 ∧ κ 129 0 ≤ 4) ∧ (0 ≤ κ 125 0 ∧ κ 125 0 ≤ 4) ∧ (0 ≤ κ 126 0 ∧ κ 126 0 ≤ 2) ∧ (0 ≤ κ 127 0 ∧ κ 127 0 ≤ 2) ∧ (0 ≤ κ 128 0 ∧ κ 128 0 ≤ 3) ∧ (0 ≤ κ 130 0 ∧ κ 130 0 ≤ 15) ∧
  (∀ p : Int, 0 ≤ p → p < 4 → (0 ≤ κ 49 p ∧ κ 49 p ≤ 15) ∧ (0 ≤ κ 50 p ∧ κ 50 p ≤ 4) ∧ (0 ≤ κ 51 p ∧ κ 51 p ≤ 9) ∧ (0 ≤ κ 52 p ∧ κ 52 p ≤ 9)) ∧ (0 ≤ κ 124 0 ∧ κ 124 0 ≤ 4) ∧ (∀ k : Int, 0 ≤ k → k < 4 * κ 124 0 → 0 ≤ κ 44 k ∧ κ 44 k ≤ 9)
def MR (κ μ : Mem) : Prop := KR κ ∧ μ 129 0 = κ 129 0 ∧ μ 125 0 = κ 125 0 ∧ μ 126 0 = κ 126 0 ∧ μ 127 0 = κ 127 0 ∧ μ 128 0 = κ 128 0 ∧ μ 130 0 = κ 130 0 ∧
  (∀ p : Int, 0 ≤ p → p < 4 → μ 49 p = κ 49 p ∧ μ 50 p = κ 50 p ∧ μ 51 p = κ 51 p ∧ μ 52 p = κ 52 p) ∧ μ 124 0 = κ 124 0 ∧ (∀ k : Int, 0 ≤ k → k < 4 * κ 124 0 → μ 44 k = κ 44 k)
/-- quarters of one at a tale -/
def kq (κ : Mem) (p i : Int) : Int := if i < κ 50 p ∧ bt (κ 130 0) p = 0 then qt (κ 51 p) (κ 52 i) (if i = 0 then 0 else κ 52 (i - 1) / 2) (bt (κ 49 p) i) else 0
theorem kq_in {κ : Mem} (h : KR κ) {p i : Int} (hp : 0 ≤ p ∧ p < 4) (hi : 0 ≤ i ∧ i < 4) : 0 ≤ kq κ p i ∧ kq κ p i ≤ 4 := by
  obtain ⟨h1, h2, h3, h4, h5, h6, h7, h8, h9⟩ := h
  have a1 := h7 p hp.1 hp.2
  have a2 := h7 i hi.1 hi.2
  unfold kq
  split
  · refine qt_in a1.2.2.1 a2.2.2.2 ?_
    split
    · omega
    · have a3 := h7 (i - 1) (by omega) (by omega)
      omega
  · omega
/-- the room as it is told, with the ways -/
def cfg (tx : Int → Int) (n : Int) (hd lv : Int → Int) : Mem := fun c k =>
  if c = 129 then pPe tx n else if c = 125 then pTa tx n else if c = 126 then lwF tx n 0 else if c = 127 then lwF tx n 1 else if c = 128 then lwF tx n 2 else if c = 130 then 0 else if c = 49 then hd k else if c = 50 then lv k else
  if c = 51 then (if k < pPe tx n then pPr tx n (4 * k) else 0) else if c = 52 then (if k < pTa tx n then pFu tx n k else 0) else if c = 124 then pPe tx n else if c = 44 then pPr tx n k else 0
theorem cfg_KR {tx : Int → Int} {n : Int} {hd lv : Int → Int} (hn : 0 ≤ n) (h1 : ∀ p : Int, 0 ≤ p → p < 4 → 0 ≤ hd p ∧ hd p ≤ 15) (h2 : ∀ p : Int, 0 ≤ p → p < 4 → 0 ≤ lv p ∧ lv p ≤ 4) : KR (cfg tx n hd lv) := by
  have a1 := pPe_in (tx := tx) hn
  have a2 := pTa_in (tx := tx) hn
  have a3 := lwF_in (tx := tx) hn
  refine ⟨a1, a2, a3.1, a3.2.1, a3.2.2, by simp (decide := true) only [cfg, if_true, if_false], fun p p0 p1 => ⟨h1 p p0 p1, h2 p p0 p1, ?_, ?_⟩, a1, fun k k0 k1 => pPr_in hn k0 k1⟩
  · show 0 ≤ (if p < pPe tx n then pPr tx n (4 * p) else 0) ∧ (if p < pPe tx n then pPr tx n (4 * p) else 0) ≤ 9
    split
    · exact pPr_in hn (by omega) (by omega)
    · omega
  · show 0 ≤ (if p < pTa tx n then pFu tx n p else 0) ∧ (if p < pTa tx n then pFu tx n p else 0) ≤ 9
    split
    · exact pFu_in hn p0 (by omega)
    · omega
