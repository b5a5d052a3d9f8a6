/-! ===== both sides at the law: their relation ===== -/
def Sm (μ ν : Mem) : Prop := ν 58 = μ 58 ∧ ν 59 = μ 59 ∧ ν 60 = μ 60 ∧ ν 61 = μ 61 ∧ ν 62 = μ 62 ∧ ν 135 = μ 135
theorem saw_cg {μ ν : Mem} {a b c d e : Int} (h : Sm μ ν) : (sawF ν a b c d e).2 = (sawF μ a b c d e).2 ∧ Sm (sawF μ a b c d e).1 (sawF ν a b c d e).1 := by
  obtain ⟨h1, h2, h3, h4, h5, h6⟩ := id h
  unfold sawF
  rw [h6]
  split
  · split
    · exact ⟨rfl, h⟩
    · refine ⟨rfl, ?_⟩
      unfold sawM Sm
      simp (decide := true) only [wr_nc, wr_f, h1, h2, h3, h4, h5, h6, ne_eq, not_false_eq_true, and_self]
  · exact ⟨rfl, h⟩
theorem rdN_cg {μ ν : Mem} {a sz : Int} {it : Int → Int} (h : Sm μ ν) : ∀ j : Nat, (rdN ν a it sz j).2 = (rdN μ a it sz j).2 ∧ Sm (rdN μ a it sz j).1 (rdN ν a it sz j).1
  | 0 => ⟨rfl, h⟩
  | j + 1 => by
    obtain ⟨h1, h2⟩ := rdN_cg (a := a) (sz := sz) (it := it) h j
    unfold rdN
    rw [h1]
    split
    · have h3 := saw_cg (a := a) (b := it (3 * (rdN μ a it sz j).2.2)) (c := it (3 * (rdN μ a it sz j).2.2 + 1)) (d := 0) (e := it (3 * (rdN μ a it sz j).2.2 + 2)) h2
      unfold rdS
      rw [h1]
      exact ⟨by rw [h3.1], h3.2⟩
    · exact ⟨h1, h2⟩
theorem rd_cg {μ ν : Mem} {a sz : Int} {it : Int → Int} (h : Sm μ ν) : (rd ν a it sz).2 = (rd μ a it sz).2 ∧ Sm (rd μ a it sz).1 (rd ν a it sz).1 := by
  obtain ⟨h1, h2⟩ := rdN_cg (a := a) (sz := sz) (it := it) h 20
  exact ⟨by unfold rd; rw [h1], h2⟩
theorem ofs_cg {μ ν : Mem} {a t : Int} (h : Sm μ ν) : ofs ν a t = ofs μ a t := by
  obtain ⟨h1, h2, h3, h4, h5, h6⟩ := h
  have e : ofF ν a t = ofF μ a t := by funext j; unfold ofF; rw [h1, h2, h3, h4, h5]
  unfold ofs
  rw [e, h6]
theorem gsN_cg {μ ν : Mem} {a : Int} (h : Sm μ ν) : ∀ t : Nat, gsN ν a t = gsN μ a t
  | 0 => rfl
  | t + 1 => by
    unfold gsN
    rw [gsN_cg h t, ofs_cg h, ofs_cg h]
theorem gss_cg {μ ν : Mem} {a : Int} (h : Sm μ ν) : gss ν a = gss μ a := by
  have e : snF ν a = snF μ a := by funext j; unfold snF; rw [h.1]
  unfold gss
  rw [e, gsN_cg h, h.2.2.2.2.2]
theorem cnV_cg {μ ν : Mem} {tx : Int → Int} {n q : Int} (h : Sm μ ν) (h57 : ν 57 = μ 57) (h121 : ν 121 = μ 121) : cnV tx n ν q = cnV tx n μ q := by
  obtain ⟨h1, h2, h3, h4, h5, h6⟩ := h
  unfold cnV
  rw [h5, h6, h57, h121]
theorem dgPs_cg {κ μ ν : Mem} {wt : Int → Int} {h0 : Int} (h : Sm μ ν) : ∀ p : Nat, dgPs κ wt ν h0 p = dgPs κ wt μ h0 p
  | 0 => rfl
  | p + 1 => by
    unfold dgPs dgP dgS
    rw [dgPs_cg h p, gss_cg h]
theorem dgst_cg {κ μ ν : Mem} {wt : Int → Int} {h0 : Int} (h : Sm μ ν) : dgst κ wt ν h0 = dgst κ wt μ h0 := by
  unfold dgst
  rw [dgPs_cg h]
theorem Fr.sm {F : List Nat} {μ ν : Mem} (hF : Fr F μ ν) (h : F.all (fun c => decide (c ∉ [58, 59, 60, 61, 62, 135])) = true) : Sm μ ν := by
  have e : ∀ c, c ∈ [58, 59, 60, 61, 62, 135] → ν c = μ c := fun c hc => hF c (fun q => of_decide_eq_true (List.all_eq_true.mp h c q) hc)
  exact ⟨e 58 (by decide), e 59 (by decide), e 60 (by decide), e 61 (by decide), e 62 (by decide), e 135 (by decide)⟩
/-- text, hands, weights, what was seen: the same on both sides -/
def R0 (μ : Mem) : Prop :=
  (μ 13 = μ 43) ∧
  (μ 100 0 = μ 122 0) ∧
  (0 ≤ μ 122 0 ∧ μ 122 0 ≤ 60) ∧
  (∀ k : Int, 0 ≤ k → k < μ 122 0 → 0 ≤ μ 43 k ∧ μ 43 k ≤ 255) ∧
  (RQ (μ 43) (μ 122 0) μ) ∧
  (μ 101 0 = pFa (μ 43) (μ 122 0)) ∧
  (μ 10 = μ 47) ∧
  (μ 11 = μ 48) ∧
  (μ 12 = μ 57) ∧
  (∀ p : Int, 0 ≤ p → p < 4 → 0 ≤ μ 47 p ∧ μ 47 p ≤ 15) ∧
  (∀ p : Int, 0 ≤ p → p < 4 → 0 ≤ μ 48 p ∧ μ 48 p ≤ 4) ∧
  (∀ k : Int, 0 ≤ k → k < 5 → 0 ≤ μ 57 k ∧ μ 57 k ≤ 9) ∧
  (SQ μ μ)
theorem R0.e13 {μ : Mem} (h : R0 μ) : μ 13 = μ 43 := h.1
theorem R0.e100 {μ : Mem} (h : R0 μ) : μ 100 0 = μ 122 0 := h.2.1
theorem R0.hn {μ : Mem} (h : R0 μ) : 0 ≤ μ 122 0 ∧ μ 122 0 ≤ 60 := h.2.2.1
theorem R0.ht {μ : Mem} (h : R0 μ) : ∀ k : Int, 0 ≤ k → k < μ 122 0 → 0 ≤ μ 43 k ∧ μ 43 k ≤ 255 := h.2.2.2.1
theorem R0.hQ {μ : Mem} (h : R0 μ) : RQ (μ 43) (μ 122 0) μ := h.2.2.2.2.1
theorem R0.e101 {μ : Mem} (h : R0 μ) : μ 101 0 = pFa (μ 43) (μ 122 0) := h.2.2.2.2.2.1
theorem R0.e10 {μ : Mem} (h : R0 μ) : μ 10 = μ 47 := h.2.2.2.2.2.2.1
theorem R0.e11 {μ : Mem} (h : R0 μ) : μ 11 = μ 48 := h.2.2.2.2.2.2.2.1
theorem R0.e12 {μ : Mem} (h : R0 μ) : μ 12 = μ 57 := h.2.2.2.2.2.2.2.2.1
theorem R0.hhd {μ : Mem} (h : R0 μ) : ∀ p : Int, 0 ≤ p → p < 4 → 0 ≤ μ 47 p ∧ μ 47 p ≤ 15 := h.2.2.2.2.2.2.2.2.2.1
theorem R0.hlv {μ : Mem} (h : R0 μ) : ∀ p : Int, 0 ≤ p → p < 4 → 0 ≤ μ 48 p ∧ μ 48 p ≤ 4 := h.2.2.2.2.2.2.2.2.2.2.1
theorem R0.hwt {μ : Mem} (h : R0 μ) : ∀ k : Int, 0 ≤ k → k < 5 → 0 ≤ μ 57 k ∧ μ 57 k ≤ 9 := h.2.2.2.2.2.2.2.2.2.2.2.1
theorem R0.hS {μ : Mem} (h : R0 μ) : SQ μ μ := h.2.2.2.2.2.2.2.2.2.2.2.2
/-- the sheets: the same on both sides -/
def SH (μ : Mem) : Prop :=
  (∀ s : Int, 0 ≤ s → s < 4 → (0 ≤ μ 40 s ∧ μ 40 s ≤ 60) ∧ (-2147483648 ≤ μ 37 s ∧ μ 37 s < 2147483648) ∧ ((μ 36 s = -1 ∧ μ 39 s = -1) ∨ (μ 36 s = μ 40 s ∧ μ 37 s = μ 39 s ∧ (0 ≤ μ 39 s ∧ μ 39 s ≤ 2) ∧ ∀ k : Int, 0 ≤ k → k < μ 40 s → μ 38 (60 * s + k) = μ 41 (60 * s + k)))) ∧
  (∀ k : Int, 0 ≤ k → k < 240 → -2147483648 ≤ μ 38 k ∧ μ 38 k < 2147483648) ∧
  (∀ k : Int, 0 ≤ k → k < 240 → -2147483648 ≤ μ 41 k ∧ μ 41 k < 2147483648) ∧
  (μ 120 0 = μ 121 0) ∧
  (-2147483648 ≤ μ 121 0 ∧ μ 121 0 < 2147483648)
theorem SH.hsh {μ : Mem} (h : SH μ) : ∀ s : Int, 0 ≤ s → s < 4 → (0 ≤ μ 40 s ∧ μ 40 s ≤ 60) ∧ (-2147483648 ≤ μ 37 s ∧ μ 37 s < 2147483648) ∧ ((μ 36 s = -1 ∧ μ 39 s = -1) ∨ (μ 36 s = μ 40 s ∧ μ 37 s = μ 39 s ∧ (0 ≤ μ 39 s ∧ μ 39 s ≤ 2) ∧ ∀ k : Int, 0 ≤ k → k < μ 40 s → μ 38 (60 * s + k) = μ 41 (60 * s + k))) := h.1
theorem SH.hi8 {μ : Mem} (h : SH μ) : ∀ k : Int, 0 ≤ k → k < 240 → -2147483648 ≤ μ 38 k ∧ μ 38 k < 2147483648 := h.2.1
theorem SH.hi9 {μ : Mem} (h : SH μ) : ∀ k : Int, 0 ≤ k → k < 240 → -2147483648 ≤ μ 41 k ∧ μ 41 k < 2147483648 := h.2.2.1
theorem SH.e120 {μ : Mem} (h : SH μ) : μ 120 0 = μ 121 0 := h.2.2.2.1
theorem SH.h121 {μ : Mem} (h : SH μ) : -2147483648 ≤ μ 121 0 ∧ μ 121 0 < 2147483648 := h.2.2.2.2
def REL (μ : Mem) : Prop := R0 μ ∧ SH μ
theorem R0.fr {F : List Nat} {μ ν : Mem} (h : R0 μ) (hF : Fr F μ ν) (hd : F.all (fun c => decide (c ∉ [10, 11, 12, 13, 14, 15, 16, 31, 32, 33, 34, 35, 43, 47, 48, 57, 58, 59, 60, 61, 62, 100, 101, 102, 103, 119, 122, 135])) = true) : R0 ν := by
  have e : ∀ c, c ∈ [10, 11, 12, 13, 14, 15, 16, 31, 32, 33, 34, 35, 43, 47, 48, 57, 58, 59, 60, 61, 62, 100, 101, 102, 103, 119, 122, 135] → ν c = μ c := fun c hc => hF c (fun q => of_decide_eq_true (List.all_eq_true.mp hd c q) hc)
  have e10 := e 10 (by decide)
  have e11 := e 11 (by decide)
  have e12 := e 12 (by decide)
  have e13 := e 13 (by decide)
  have e14 := e 14 (by decide)
  have e15 := e 15 (by decide)
  have e16 := e 16 (by decide)
  have e31 := e 31 (by decide)
  have e32 := e 32 (by decide)
  have e33 := e 33 (by decide)
  have e34 := e 34 (by decide)
  have e35 := e 35 (by decide)
  have e43 := e 43 (by decide)
  have e47 := e 47 (by decide)
  have e48 := e 48 (by decide)
  have e57 := e 57 (by decide)
  have e58 := e 58 (by decide)
  have e59 := e 59 (by decide)
  have e60 := e 60 (by decide)
  have e61 := e 61 (by decide)
  have e62 := e 62 (by decide)
  have e100 := e 100 (by decide)
  have e101 := e 101 (by decide)
  have e102 := e 102 (by decide)
  have e103 := e 103 (by decide)
  have e119 := e 119 (by decide)
  have e122 := e 122 (by decide)
  have e135 := e 135 (by decide)
  obtain ⟨h1, h2, h3, h4, h5, h6, h7, h8, h9, h10, h11, h12, h13⟩ := h
  unfold RQ at h5
  unfold SQ SW at h13
  exact ⟨by rw [e13, e43]; exact h1, by rw [e100, e122]; exact h2, by rw [e122]; exact h3, by rw [e122, e43]; exact h4, by unfold RQ; rw [e102, e103, e14, e15, e16, e43, e122]; exact h5, by rw [e101, e43, e122]; exact h6, by rw [e10, e47]; exact h7, by rw [e11, e48]; exact h8, by rw [e12, e57]; exact h9, by rw [e47]; exact h10, by rw [e48]; exact h11, by rw [e57]; exact h12, by unfold SQ SW; rw [e58, e59, e60, e61, e62, e135, e31, e32, e33, e34, e35, e119]; exact h13⟩
theorem SH.fr {F : List Nat} {μ ν : Mem} (h : SH μ) (hF : Fr F μ ν) (hd : F.all (fun c => decide (c ∉ [36, 37, 38, 39, 40, 41, 120, 121])) = true) : SH ν := by
  have e : ∀ c, c ∈ [36, 37, 38, 39, 40, 41, 120, 121] → ν c = μ c := fun c hc => hF c (fun q => of_decide_eq_true (List.all_eq_true.mp hd c q) hc)
  have e36 := e 36 (by decide)
  have e37 := e 37 (by decide)
  have e38 := e 38 (by decide)
  have e39 := e 39 (by decide)
  have e40 := e 40 (by decide)
  have e41 := e 41 (by decide)
  have e120 := e 120 (by decide)
  have e121 := e 121 (by decide)
  obtain ⟨h1, h2, h3, h4, h5⟩ := h
  exact ⟨by rw [e36, e37, e38, e39, e40, e41]; exact h1, by rw [e38]; exact h2, by rw [e41]; exact h3, by rw [e120, e121]; exact h4, by rw [e121]; exact h5⟩
theorem REL.fr {F : List Nat} {μ ν : Mem} (h : REL μ) (hF : Fr F μ ν) (hd : F.all (fun c => decide (c ∉ [10, 11, 12, 13, 14, 15, 16, 31, 32, 33, 34, 35, 43, 47, 48, 57, 58, 59, 60, 61, 62, 100, 101, 102, 103, 119, 122, 135])) = true) (hd2 : F.all (fun c => decide (c ∉ [36, 37, 38, 39, 40, 41, 120, 121])) = true) : REL ν := ⟨h.1.fr hF hd, h.2.fr hF hd2⟩
theorem SH.za {μ : Mem} (h : SH μ) : ∀ s : Int, 0 ≤ s → s < 4 → -1 ≤ μ 36 s ∧ μ 36 s ≤ 60 := fun s h0 h1 => by
  obtain ⟨a, b, c⟩ := h.hsh s h0 h1
  rcases c with ⟨c, -⟩ | ⟨c, -⟩ <;> omega
theorem SH.fa {μ : Mem} (h : SH μ) : ∀ s : Int, 0 ≤ s → s < 4 → -2147483648 ≤ μ 37 s ∧ μ 37 s < 2147483648 := fun s h0 h1 => (h.hsh s h0 h1).2.1
theorem SH.rl {μ : Mem} (h : SH μ) : ∀ s : Int, 0 ≤ s → s < 4 → (μ 36 s = -1 ∧ μ 39 s = -1) ∨ (μ 36 s = μ 40 s ∧ μ 37 s = μ 39 s ∧ (0 ≤ μ 39 s ∧ μ 39 s ≤ 2) ∧ (0 ≤ μ 40 s ∧ μ 40 s ≤ 60) ∧ ∀ k : Int, 0 ≤ k → k < μ 40 s → μ 38 (60 * s + k) = μ 41 (60 * s + k)) := fun s h0 h1 => by
  obtain ⟨a, b, c⟩ := h.hsh s h0 h1
  rcases c with c | ⟨c1, c2, c3, c4⟩
  · exact Or.inl c
  · exact Or.inr ⟨c1, c2, c3, a, c4⟩
theorem SH.fm {μ : Mem} (h : SH μ) : ∀ s : Int, 0 ≤ s → s < 4 → (μ 39 s = -1 ∨ 0 ≤ μ 39 s ∧ μ 39 s ≤ 2) ∧ 0 ≤ μ 40 s ∧ μ 40 s ≤ 60 := fun s h0 h1 => by
  obtain ⟨a, b, c⟩ := h.hsh s h0 h1
  rcases c with ⟨-, c⟩ | ⟨-, -, c, -⟩ <;> omega
theorem SH.fm' {μ : Mem} (h : SH μ) : ∀ s : Int, 0 ≤ s → s < 4 → -1 ≤ μ 39 s ∧ μ 39 s ≤ 2 := fun s h0 h1 => by
  have := h.fm s h0 h1
  omega
theorem SH.sz {μ : Mem} (h : SH μ) : ∀ s : Int, 0 ≤ s → s < 4 → -1 ≤ μ 40 s ∧ μ 40 s ≤ 60 := fun s h0 h1 => by
  have := h.fm s h0 h1
  omega
theorem ro_fault {μ : Mem}  (h : REL μ) : Mc kX8_fault [.inr (.inr 0)] μ (pI (fun z ν => Mc kX9_fault [.inr (.inr 9)] ν (pI (fun w ρ => z = w ∧ REL ρ)))) := by
  refine Mc.mono (c_X8_fault  (e101 := h.1.e101)) ?_
  rintro r ν ⟨z, rfl, rfl, rfl⟩
  have hF : Fr [] μ μ := Fr.rf
  have hR := h.fr hF (by decide) (by decide)
  refine ⟨_, rfl, Mc.mono (c_X9_fault  (e43 := hF.fn 43 rfl) (e122 := by rw [hF.fn 122 rfl]) (hn := h.1.hn) (ht := h.1.ht)) ?_⟩
  rintro r ρ ⟨w, rfl, rfl, hG⟩
  exact ⟨_, rfl, rfl, hR.fr hG (by decide) (by decide)⟩
theorem ro_person {p w : Int} {μ : Mem} (h_p : -2147483648 ≤ p ∧ p < 2147483648) (h_w : -2147483648 ≤ w ∧ w < 2147483648) (h : REL μ) : Mc kX8_person [.inr (.inr 0), .inl p, .inl w] μ (pI (fun z ν => Mc kX9_person [.inr (.inr 9), .inl p, .inl w] ν (pI (fun w ρ => z = w ∧ REL ρ)))) := by
  refine Mc.mono (c_X8_person (h_p := h_p) (h_w := h_w) (hQ := h.1.hQ) (hn := h.1.hn)) ?_
  rintro r ν ⟨z, rfl, rfl, rfl⟩
  have hF : Fr [] μ μ := Fr.rf
  have hR := h.fr hF (by decide) (by decide)
  refine ⟨_, rfl, Mc.mono (c_X9_person (h_p := h_p) (h_w := h_w) (e43 := hF.fn 43 rfl) (e122 := by rw [hF.fn 122 rfl]) (hn := h.1.hn) (ht := h.1.ht)) ?_⟩
  rintro r ρ ⟨w, rfl, rfl, hG⟩
  exact ⟨_, rfl, rfl, hR.fr hG (by decide) (by decide)⟩
theorem ro_tale {i : Int} {μ : Mem} (h_i : -2147483648 ≤ i ∧ i < 2147483648) (h : REL μ) : Mc kX8_tale [.inr (.inr 0), .inl i] μ (pI (fun z ν => Mc kX9_tale [.inr (.inr 9), .inl i] ν (pI (fun w ρ => z = w ∧ REL ρ)))) := by
  refine Mc.mono (c_X8_tale (h_i := h_i) (hQ := h.1.hQ) (hn := h.1.hn)) ?_
  rintro r ν ⟨z, rfl, rfl, rfl⟩
  have hF : Fr [] μ μ := Fr.rf
  have hR := h.fr hF (by decide) (by decide)
  refine ⟨_, rfl, Mc.mono (c_X9_tale (h_i := h_i) (e43 := hF.fn 43 rfl) (e122 := by rw [hF.fn 122 rfl]) (hn := h.1.hn) (ht := h.1.ht)) ?_⟩
  rintro r ρ ⟨w, rfl, rfl, hG⟩
  exact ⟨_, rfl, rfl, hR.fr hG (by decide) (by decide)⟩
theorem ro_law {w : Int} {μ : Mem} (h_w : -2147483648 ≤ w ∧ w < 2147483648) (h : REL μ) : Mc kX8_law [.inr (.inr 0), .inl w] μ (pI (fun z ν => Mc kX9_law [.inr (.inr 9), .inl w] ν (pI (fun w ρ => z = w ∧ REL ρ)))) := by
  refine Mc.mono (c_X8_law (h_w := h_w) (hQ := h.1.hQ) (hn := h.1.hn)) ?_
  rintro r ν ⟨z, rfl, rfl, rfl⟩
  have hF : Fr [] μ μ := Fr.rf
  have hR := h.fr hF (by decide) (by decide)
  refine ⟨_, rfl, Mc.mono (c_X9_law (h_w := h_w) (e43 := hF.fn 43 rfl) (e122 := by rw [hF.fn 122 rfl]) (hn := h.1.hn) (ht := h.1.ht)) ?_⟩
  rintro r ρ ⟨w, rfl, rfl, hG⟩
  exact ⟨_, rfl, rfl, hR.fr hG (by decide) (by decide)⟩
theorem ro_quarters {p i : Int} {μ : Mem} (h_p : -2147483648 ≤ p ∧ p < 2147483648) (h_i : -2147483648 ≤ i ∧ i < 2147483648) (h : REL μ) : Mc kX8_quarters [.inr (.inr 0), .inl p, .inl i] μ (pI (fun z ν => Mc kX9_quarters [.inr (.inr 9), .inl p, .inl i] ν (pI (fun w ρ => z = w ∧ REL ρ)))) := by
  refine Mc.mono (c_X8_quarters (h_p := h_p) (h_i := h_i) (hQ := h.1.hQ) (hn := h.1.hn) (e10 := h.1.e10) (e11 := h.1.e11) (hhd := h.1.hhd) (hlv := h.1.hlv)) ?_
  rintro r ν ⟨z, rfl, rfl, hF⟩
  have hR := h.fr hF (by decide) (by decide)
  refine ⟨_, rfl, Mc.mono (c_X9_quarters (h_p := h_p) (h_i := h_i) (e43 := hF.fn 43 rfl) (e122 := by rw [hF.fn 122 rfl]) (hn := h.1.hn) (ht := h.1.ht) (e47 := hF.fn 47 rfl) (e48 := hF.fn 48 rfl) (hhd := h.1.hhd) (hlv := h.1.hlv)) ?_⟩
  rintro r ρ ⟨w, rfl, rfl, hG⟩
  exact ⟨_, rfl, rfl, hR.fr hG (by decide) (by decide)⟩
theorem ro_owes {p m w : Int} {μ : Mem} (h_p : -2147483648 ≤ p ∧ p < 2147483648) (h_m : -2147483648 ≤ m ∧ m < 2147483648) (h_w : -2147483648 ≤ w ∧ w < 2147483648) (h : REL μ) : Mc kX8_owes [.inr (.inr 0), .inl p, .inl m, .inl w] μ (pL (fun z ν => Mc kX9_owes [.inr (.inr 9), .inl p, .inl m, .inl w] ν (pL (fun w ρ => z = w ∧ REL ρ)))) := by
  refine Mc.mono (c_X8_owes (h_p := h_p) (h_m := h_m) (h_w := h_w) (hQ := h.1.hQ) (hn := h.1.hn) (e10 := h.1.e10) (e11 := h.1.e11) (hhd := h.1.hhd) (hlv := h.1.hlv)) ?_
  rintro r ν ⟨z, rfl, rfl, hF⟩
  have hR := h.fr hF (by decide) (by decide)
  refine ⟨_, rfl, Mc.mono (c_X9_owes (h_p := h_p) (h_m := h_m) (h_w := h_w) (e43 := hF.fn 43 rfl) (e122 := by rw [hF.fn 122 rfl]) (hn := h.1.hn) (ht := h.1.ht) (e47 := hF.fn 47 rfl) (e48 := hF.fn 48 rfl) (hhd := h.1.hhd) (hlv := h.1.hlv)) ?_⟩
  rintro r ρ ⟨w, rfl, rfl, hG⟩
  exact ⟨_, rfl, rfl, hR.fr hG (by decide) (by decide)⟩
theorem ro_amount {p w : Int} {μ : Mem} (h_p : -2147483648 ≤ p ∧ p < 2147483648) (h_w : -2147483648 ≤ w ∧ w < 2147483648) (h : REL μ) : Mc kX8_amount [.inr (.inr 0), .inl p, .inl w] μ (pL (fun z ν => Mc kX9_amount [.inr (.inr 9), .inl p, .inl w] ν (pL (fun w ρ => z = w ∧ REL ρ)))) := by
  refine Mc.mono (c_X8_amount (h_p := h_p) (h_w := h_w) (hQ := h.1.hQ) (hn := h.1.hn) (e10 := h.1.e10) (e11 := h.1.e11) (hhd := h.1.hhd) (hlv := h.1.hlv)) ?_
  rintro r ν ⟨z, rfl, rfl, hF⟩
  have hR := h.fr hF (by decide) (by decide)
  refine ⟨_, rfl, Mc.mono (c_X9_amount (h_p := h_p) (h_w := h_w) (e43 := hF.fn 43 rfl) (e122 := by rw [hF.fn 122 rfl]) (hn := h.1.hn) (ht := h.1.ht) (e47 := hF.fn 47 rfl) (e48 := hF.fn 48 rfl) (hhd := h.1.hhd) (hlv := h.1.hlv)) ?_⟩
  rintro r ρ ⟨w, rfl, rfl, hG⟩
  exact ⟨_, rfl, rfl, hR.fr hG (by decide) (by decide)⟩
theorem ro_cost {p w : Int} {μ : Mem} (h_p : -2147483648 ≤ p ∧ p < 2147483648) (h_w : -2147483648 ≤ w ∧ w < 2147483648) (h : REL μ) : Mc kX8_cost [.inr (.inr 0), .inl p, .inl w] μ (pL (fun z ν => Mc kX9_cost [.inr (.inr 9), .inl p, .inl w] ν (pL (fun w ρ => z = w ∧ REL ρ)))) := by
  refine Mc.mono (c_X8_cost (h_p := h_p) (h_w := h_w) (hQ := h.1.hQ) (hn := h.1.hn) (e10 := h.1.e10) (e11 := h.1.e11) (hhd := h.1.hhd) (hlv := h.1.hlv)) ?_
  rintro r ν ⟨z, rfl, rfl, hF⟩
  have hR := h.fr hF (by decide) (by decide)
  refine ⟨_, rfl, Mc.mono (c_X9_cost (h_p := h_p) (h_w := h_w) (e43 := hF.fn 43 rfl) (e122 := by rw [hF.fn 122 rfl]) (hn := h.1.hn) (ht := h.1.ht) (e47 := hF.fn 47 rfl) (e48 := hF.fn 48 rfl) (hhd := h.1.hhd) (hlv := h.1.hlv)) ?_⟩
  rintro r ρ ⟨w, rfl, rfl, hG⟩
  exact ⟨_, rfl, rfl, hR.fr hG (by decide) (by decide)⟩
theorem ro_best {p w : Int} {μ : Mem} (h_p : -2147483648 ≤ p ∧ p < 2147483648) (h_w : -2147483648 ≤ w ∧ w < 2147483648) (h : REL μ) : Mc kX8_best [.inr (.inr 0), .inl p, .inl w] μ (pL (fun z ν => Mc kX9_best [.inr (.inr 9), .inl p, .inl w] ν (pL (fun w ρ => z = w ∧ REL ρ)))) := by
  refine Mc.mono (c_X8_best (h_p := h_p) (h_w := h_w) (hQ := h.1.hQ) (hn := h.1.hn) (e10 := h.1.e10) (e11 := h.1.e11) (hhd := h.1.hhd) (hlv := h.1.hlv)) ?_
  rintro r ν ⟨z, rfl, rfl, hF⟩
  have hR := h.fr hF (by decide) (by decide)
  refine ⟨_, rfl, Mc.mono (c_X9_best (h_p := h_p) (h_w := h_w) (e43 := hF.fn 43 rfl) (e122 := by rw [hF.fn 122 rfl]) (hn := h.1.hn) (ht := h.1.ht) (e47 := hF.fn 47 rfl) (e48 := hF.fn 48 rfl) (hhd := h.1.hhd) (hlv := h.1.hlv)) ?_⟩
  rintro r ρ ⟨w, rfl, rfl, hG⟩
  exact ⟨_, rfl, rfl, hR.fr hG (by decide) (by decide)⟩
theorem ro_rest {p w : Int} {μ : Mem} (h_p : -2147483648 ≤ p ∧ p < 2147483648) (h_w : -2147483648 ≤ w ∧ w < 2147483648) (h : REL μ) : Mc kX8_rest [.inr (.inr 0), .inl p, .inl w] μ (pI (fun z ν => Mc kX9_rest [.inr (.inr 9), .inl p, .inl w] ν (pI (fun w ρ => z = w ∧ REL ρ)))) := by
  refine Mc.mono (c_X8_rest (h_p := h_p) (h_w := h_w) (hQ := h.1.hQ) (hn := h.1.hn) (e10 := h.1.e10) (e11 := h.1.e11) (hhd := h.1.hhd) (hlv := h.1.hlv)) ?_
  rintro r ν ⟨z, rfl, rfl, hF⟩
  have hR := h.fr hF (by decide) (by decide)
  refine ⟨_, rfl, Mc.mono (c_X9_rest (h_p := h_p) (h_w := h_w) (e43 := hF.fn 43 rfl) (e122 := by rw [hF.fn 122 rfl]) (hn := h.1.hn) (ht := h.1.ht) (e47 := hF.fn 47 rfl) (e48 := hF.fn 48 rfl) (hhd := h.1.hhd) (hlv := h.1.hlv)) ?_⟩
  rintro r ρ ⟨w, rfl, rfl, hG⟩
  exact ⟨_, rfl, rfl, hR.fr hG (by decide) (by decide)⟩
theorem ro_order {p w : Int} {μ : Mem} (h_p : -2147483648 ≤ p ∧ p < 2147483648) (h_w : -2147483648 ≤ w ∧ w < 2147483648) (h : REL μ) : Mc kX8_order [.inr (.inr 0), .inl p, .inl w] μ (pI (fun z ν => Mc kX9_order [.inr (.inr 9), .inl p, .inl w] ν (pI (fun w ρ => z = w ∧ REL ρ)))) := by
  refine Mc.mono (c_X8_order (h_p := h_p) (h_w := h_w) (hQ := h.1.hQ) (hn := h.1.hn) (e10 := h.1.e10) (e11 := h.1.e11) (hhd := h.1.hhd) (hlv := h.1.hlv)) ?_
  rintro r ν ⟨z, rfl, rfl, hF⟩
  have hR := h.fr hF (by decide) (by decide)
  refine ⟨_, rfl, Mc.mono (c_X9_order (h_p := h_p) (h_w := h_w) (e43 := hF.fn 43 rfl) (e122 := by rw [hF.fn 122 rfl]) (hn := h.1.hn) (ht := h.1.ht) (e47 := hF.fn 47 rfl) (e48 := hF.fn 48 rfl) (hhd := h.1.hhd) (hlv := h.1.hlv)) ?_⟩
  rintro r ρ ⟨w, rfl, rfl, hG⟩
  exact ⟨_, rfl, rfl, hR.fr hG (by decide) (by decide)⟩
theorem ro_among {p : Int} {μ : Mem} (h_p : -2147483648 ≤ p ∧ p < 2147483648) (h : REL μ) : Mc kX8_among [.inr (.inr 0), .inl p] μ (pI (fun z ν => Mc kX9_among [.inr (.inr 9), .inl p] ν (pI (fun w ρ => z = w ∧ REL ρ)))) := by
  refine Mc.mono (c_X8_among (h_p := h_p) (hQ := h.1.hQ) (hn := h.1.hn) (e10 := h.1.e10) (e11 := h.1.e11) (hhd := h.1.hhd) (hlv := h.1.hlv)) ?_
  rintro r ν ⟨z, rfl, rfl, hF⟩
  have hR := h.fr hF (by decide) (by decide)
  refine ⟨_, rfl, Mc.mono (c_X9_among (h_p := h_p) (e43 := hF.fn 43 rfl) (e122 := by rw [hF.fn 122 rfl]) (hn := h.1.hn) (ht := h.1.ht) (e47 := hF.fn 47 rfl) (e48 := hF.fn 48 rfl) (hhd := h.1.hhd) (hlv := h.1.hlv)) ?_⟩
  rintro r ρ ⟨w, rfl, rfl, hG⟩
  exact ⟨_, rfl, rfl, hR.fr hG (by decide) (by decide)⟩
theorem ro_hire {p t w : Int} {μ : Mem} (h_p : -2147483648 ≤ p ∧ p < 2147483648) (h_t : -2147483648 ≤ t ∧ t < 2147483648) (h_w : -2147483648 ≤ w ∧ w < 2147483648) (h : REL μ) : Mc kX8_hire [.inr (.inr 0), .inl p, .inl t, .inl w] μ (pL (fun z ν => Mc kX9_hire [.inr (.inr 9), .inl p, .inl t, .inl w] ν (pL (fun w ρ => z = w ∧ REL ρ)))) := by
  refine Mc.mono (c_X8_hire (h_p := h_p) (h_t := h_t) (h_w := h_w) (hQ := h.1.hQ) (hn := h.1.hn) (e10 := h.1.e10) (e11 := h.1.e11) (hhd := h.1.hhd) (hlv := h.1.hlv)) ?_
  rintro r ν ⟨z, rfl, rfl, hF⟩
  have hR := h.fr hF (by decide) (by decide)
  refine ⟨_, rfl, Mc.mono (c_X9_hire (h_p := h_p) (h_t := h_t) (h_w := h_w) (e43 := hF.fn 43 rfl) (e122 := by rw [hF.fn 122 rfl]) (hn := h.1.hn) (ht := h.1.ht) (e47 := hF.fn 47 rfl) (e48 := hF.fn 48 rfl) (hhd := h.1.hhd) (hlv := h.1.hlv)) ?_⟩
  rintro r ρ ⟨w, rfl, rfl, hG⟩
  exact ⟨_, rfl, rfl, hR.fr hG (by decide) (by decide)⟩
theorem ro_other {p a b w : Int} {μ : Mem} (h_p : -2147483648 ≤ p ∧ p < 2147483648) (h_a : -2147483648 ≤ a ∧ a < 2147483648) (h_b : -2147483648 ≤ b ∧ b < 2147483648) (h_w : -2147483648 ≤ w ∧ w < 2147483648) (h : REL μ) : Mc kX8_other [.inr (.inr 0), .inl p, .inl a, .inl b, .inl w] μ (pL (fun z ν => Mc kX9_other [.inr (.inr 9), .inl p, .inl a, .inl b, .inl w] ν (pL (fun w ρ => z = w ∧ REL ρ)))) := by
  refine Mc.mono (c_X8_other (h_p := h_p) (h_a := h_a) (h_b := h_b) (h_w := h_w) (hQ := h.1.hQ) (hn := h.1.hn) (e10 := h.1.e10) (e11 := h.1.e11) (hhd := h.1.hhd) (hlv := h.1.hlv)) ?_
  rintro r ν ⟨z, rfl, rfl, hF⟩
  have hR := h.fr hF (by decide) (by decide)
  refine ⟨_, rfl, Mc.mono (c_X9_other (h_p := h_p) (h_a := h_a) (h_b := h_b) (h_w := h_w) (e43 := hF.fn 43 rfl) (e122 := by rw [hF.fn 122 rfl]) (hn := h.1.hn) (ht := h.1.ht) (e47 := hF.fn 47 rfl) (e48 := hF.fn 48 rfl) (hhd := h.1.hhd) (hlv := h.1.hlv)) ?_⟩
  rintro r ρ ⟨w, rfl, rfl, hG⟩
  exact ⟨_, rfl, rfl, hR.fr hG (by decide) (by decide)⟩
theorem ro_lawFor {p : Int} {μ : Mem} (h_p : -2147483648 ≤ p ∧ p < 2147483648) (h : REL μ) : Mc kX8_lawFor [.inr (.inr 0), .inl p] μ (pI (fun z ν => Mc kX9_lawFor [.inr (.inr 9), .inl p] ν (pI (fun w ρ => z = w ∧ REL ρ)))) := by
  refine Mc.mono (c_X8_lawFor (h_p := h_p) (hQ := h.1.hQ) (hn := h.1.hn) (e10 := h.1.e10) (e11 := h.1.e11) (hhd := h.1.hhd) (hlv := h.1.hlv)) ?_
  rintro r ν ⟨z, rfl, rfl, hF⟩
  have hR := h.fr hF (by decide) (by decide)
  refine ⟨_, rfl, Mc.mono (c_X9_lawFor (h_p := h_p) (e43 := hF.fn 43 rfl) (e122 := by rw [hF.fn 122 rfl]) (hn := h.1.hn) (ht := h.1.ht) (e47 := hF.fn 47 rfl) (e48 := hF.fn 48 rfl) (hhd := h.1.hhd) (hlv := h.1.hlv)) ?_⟩
  rintro r ρ ⟨w, rfl, rfl, hG⟩
  exact ⟨_, rfl, rfl, hR.fr hG (by decide) (by decide)⟩
theorem ro_edge {p : Int} {μ : Mem} (h_p : -2147483648 ≤ p ∧ p < 2147483648) (h : REL μ) : Mc kX8_edge [.inr (.inr 0), .inl p] μ (pI (fun z ν => Mc kX9_edge [.inr (.inr 9), .inl p] ν (pI (fun w ρ => z = w ∧ REL ρ)))) := by
  refine Mc.mono (c_X8_edge (h_p := h_p) (hQ := h.1.hQ) (hn := h.1.hn) (e10 := h.1.e10) (e11 := h.1.e11) (hhd := h.1.hhd) (hlv := h.1.hlv)) ?_
  rintro r ν ⟨z, rfl, rfl, hF⟩
  have hR := h.fr hF (by decide) (by decide)
  refine ⟨_, rfl, Mc.mono (c_X9_edge (h_p := h_p) (e43 := hF.fn 43 rfl) (e122 := by rw [hF.fn 122 rfl]) (hn := h.1.hn) (ht := h.1.ht) (e47 := hF.fn 47 rfl) (e48 := hF.fn 48 rfl) (hhd := h.1.hhd) (hlv := h.1.hlv)) ?_⟩
  rintro r ρ ⟨w, rfl, rfl, hG⟩
  exact ⟨_, rfl, rfl, hR.fr hG (by decide) (by decide)⟩
theorem ro_two {w : Int} {μ : Mem} (h_w : -2147483648 ≤ w ∧ w < 2147483648) (h : REL μ) : Mc kX8_two [.inr (.inr 0), .inl w] μ (pL (fun z ν => Mc kX9_two [.inr (.inr 9), .inl w] ν (pL (fun w ρ => z = w ∧ REL ρ)))) := by
  refine Mc.mono (c_X8_two (h_w := h_w) (hQ := h.1.hQ) (hn := h.1.hn) (e10 := h.1.e10) (e11 := h.1.e11) (hhd := h.1.hhd) (hlv := h.1.hlv)) ?_
  rintro r ν ⟨z, rfl, rfl, hF⟩
  have hR := h.fr hF (by decide) (by decide)
  refine ⟨_, rfl, Mc.mono (c_X9_two (h_w := h_w) (e43 := hF.fn 43 rfl) (e122 := by rw [hF.fn 122 rfl]) (hn := h.1.hn) (ht := h.1.ht) (e47 := hF.fn 47 rfl) (e48 := hF.fn 48 rfl) (hhd := h.1.hhd) (hlv := h.1.hlv)) ?_⟩
  rintro r ρ ⟨w, rfl, rfl, hG⟩
  exact ⟨_, rfl, rfl, hR.fr hG (by decide) (by decide)⟩
theorem ro_made {s : Int} {μ : Mem} (h_s : -2147483648 ≤ s ∧ s < 2147483648) (h : REL μ) : Mc kX8_made [.inr (.inr 0), .inl s] μ (pI (fun z ν => Mc kX9_made [.inr (.inr 9), .inl s] ν (pI (fun w ρ => z = w ∧ REL ρ)))) := by
  refine Mc.mono (c_X8_made (h_s := h_s) (hQ := h.1.hQ) (hn := h.1.hn) (e10 := h.1.e10) (e11 := h.1.e11) (hhd := h.1.hhd) (hlv := h.1.hlv)) ?_
  rintro r ν ⟨z, rfl, rfl, hF⟩
  have hR := h.fr hF (by decide) (by decide)
  refine ⟨_, rfl, Mc.mono (c_X9_made (h_s := h_s) (e43 := hF.fn 43 rfl) (e122 := by rw [hF.fn 122 rfl]) (hn := h.1.hn) (ht := h.1.ht) (e47 := hF.fn 47 rfl) (e48 := hF.fn 48 rfl) (hhd := h.1.hhd) (hlv := h.1.hlv)) ?_⟩
  rintro r ρ ⟨w, rfl, rfl, hG⟩
  exact ⟨_, rfl, rfl, hR.fr hG (by decide) (by decide)⟩
theorem ro_evenings {s k q : Int} {μ : Mem} (h_s : -2147483648 ≤ s ∧ s < 2147483648) (h_k : -2147483648 ≤ k ∧ k < 2147483648) (h_q : -2147483648 ≤ q ∧ q < 2147483648) (h : REL μ) : Mc kX8_evenings [.inr (.inr 0), .inl s, .inl k, .inl q] μ (pI (fun z ν => Mc kX9_evenings [.inr (.inr 9), .inl s, .inl k, .inl q] ν (pI (fun w ρ => z = w ∧ REL ρ)))) := by
  refine Mc.mono (c_X8_evenings (h_s := h_s) (h_k := h_k) (h_q := h_q) (hQ := h.1.hQ) (hn := h.1.hn) (e10 := h.1.e10) (e11 := h.1.e11) (hhd := h.1.hhd) (hlv := h.1.hlv)) ?_
  rintro r ν ⟨z, rfl, rfl, hF⟩
  have hR := h.fr hF (by decide) (by decide)
  refine ⟨_, rfl, Mc.mono (c_X9_evenings (h_s := h_s) (h_k := h_k) (h_q := h_q) (e43 := hF.fn 43 rfl) (e122 := by rw [hF.fn 122 rfl]) (hn := h.1.hn) (ht := h.1.ht) (e47 := hF.fn 47 rfl) (e48 := hF.fn 48 rfl) (hhd := h.1.hhd) (hlv := h.1.hlv)) ?_⟩
  rintro r ρ ⟨w, rfl, rfl, hG⟩
  exact ⟨_, rfl, rfl, hR.fr hG (by decide) (by decide)⟩
theorem ro_early {p w : Int} {μ : Mem} (h_p : -2147483648 ≤ p ∧ p < 2147483648) (h_w : -2147483648 ≤ w ∧ w < 2147483648) (h : REL μ) : Mc kX8_early [.inr (.inr 0), .inl p, .inl w] μ (pL (fun z ν => Mc kX9_early [.inr (.inr 9), .inl p, .inl w] ν (pL (fun w ρ => z = w ∧ REL ρ)))) := by
  refine Mc.mono (c_X8_early (h_p := h_p) (h_w := h_w) (e12 := h.1.e12) (hwt := h.1.hwt) (hQ := h.1.hQ) (hn := h.1.hn) (e10 := h.1.e10) (e11 := h.1.e11) (hhd := h.1.hhd) (hlv := h.1.hlv)) ?_
  rintro r ν ⟨z, rfl, rfl, hF⟩
  have hR := h.fr hF (by decide) (by decide)
  refine ⟨_, rfl, Mc.mono (c_X9_early (h_p := h_p) (h_w := h_w) (e57 := hF.fn 57 rfl) (hwt := h.1.hwt) (e43 := hF.fn 43 rfl) (e122 := by rw [hF.fn 122 rfl]) (hn := h.1.hn) (ht := h.1.ht) (e47 := hF.fn 47 rfl) (e48 := hF.fn 48 rfl) (hhd := h.1.hhd) (hlv := h.1.hlv)) ?_⟩
  rintro r ρ ⟨w, rfl, rfl, hG⟩
  exact ⟨_, rfl, rfl, hR.fr hG (by decide) (by decide)⟩
theorem ro_count {q : Int} {μ : Mem} (h_q : -2147483648 ≤ q ∧ q < 2147483648) (h : REL μ) : Mc kX8_count [.inr (.inr 0), .inl q] μ (pI (fun z ν => Mc kX9_count [.inr (.inr 9), .inl q] ν (pI (fun w ρ => z = w ∧ REL ρ)))) := by
  refine Mc.mono (c_X8_count (h_q := h_q) (hQ := h.1.hQ) (hn := h.1.hn) (hS := h.1.hS) (e12 := h.1.e12) (e100 := h.1.e100) (e120 := h.2.e120)) ?_
  rintro r ν ⟨z, rfl, rfl, rfl⟩
  have hF : Fr [] μ μ := Fr.rf
  have hR := h.fr hF (by decide) (by decide)
  refine ⟨_, rfl, Mc.mono (c_X9_count (h_q := h_q) (h135 := h.1.hS.1.1) (e43 := hF.fn 43 rfl) (e122 := by rw [hF.fn 122 rfl]) (hn := h.1.hn) (ht := h.1.ht)) ?_⟩
  rintro r ρ ⟨w, rfl, rfl, hG⟩
  exact ⟨_, rfl, rfl, hR.fr hG (by decide) (by decide)⟩
theorem ro_off {a t : Int} {μ : Mem} (h_a : -2147483648 ≤ a ∧ a < 2147483648) (h_t : -2147483648 ≤ t ∧ t < 2147483648) (h : REL μ) : Mc kX8_off [.inr (.inr 0), .inl a, .inl t] μ (pI (fun z ν => Mc kX9_off [.inr (.inr 9), .inl a, .inl t] ν (pI (fun w ρ => z = w ∧ REL ρ)))) := by
  refine Mc.mono (c_X8_off (h_a := h_a) (h_t := h_t) (hS := h.1.hS)) ?_
  rintro r ν ⟨z, rfl, rfl, rfl⟩
  have hF : Fr [] μ μ := Fr.rf
  have hR := h.fr hF (by decide) (by decide)
  refine ⟨_, rfl, Mc.mono (c_X9_off (h_a := h_a) (h_t := h_t) (hS := h.1.hS.1)) ?_⟩
  rintro r ρ ⟨w, rfl, rfl, rfl⟩
  exact ⟨_, rfl, rfl, hR⟩
theorem ro_guess {a : Int} {μ : Mem} (h_a : -2147483648 ≤ a ∧ a < 2147483648) (h : REL μ) : Mc kX8_guess [.inr (.inr 0), .inl a] μ (pI (fun z ν => Mc kX9_guess [.inr (.inr 9), .inl a] ν (pI (fun w ρ => z = w ∧ REL ρ)))) := by
  refine Mc.mono (c_X8_guess (h_a := h_a) (hS := h.1.hS)) ?_
  rintro r ν ⟨z, rfl, rfl, rfl⟩
  have hF : Fr [] μ μ := Fr.rf
  have hR := h.fr hF (by decide) (by decide)
  refine ⟨_, rfl, Mc.mono (c_X9_guess (h_a := h_a) (hS := h.1.hS.1)) ?_⟩
  rintro r ρ ⟨w, rfl, rfl, rfl⟩
  exact ⟨_, rfl, rfl, hR⟩
theorem ro_laughs {a b w : Int} {μ : Mem} (h_a : -2147483648 ≤ a ∧ a < 2147483648) (h_b : -2147483648 ≤ b ∧ b < 2147483648) (h_w : -2147483648 ≤ w ∧ w < 2147483648) (h : REL μ) : Mc kX8_laughs [.inr (.inr 0), .inl a, .inl b, .inl w] μ (pI (fun z ν => Mc kX9_laughs [.inr (.inr 9), .inl a, .inl b, .inl w] ν (pI (fun w ρ => z = w ∧ REL ρ)))) := by
  refine Mc.mono (c_X8_laughs (h_a := h_a) (h_b := h_b) (h_w := h_w) (hS := h.1.hS)) ?_
  rintro r ν ⟨z, rfl, rfl, rfl⟩
  have hF : Fr [] μ μ := Fr.rf
  have hR := h.fr hF (by decide) (by decide)
  refine ⟨_, rfl, Mc.mono (c_X9_laughs (h_a := h_a) (h_b := h_b) (h_w := h_w) (hS := h.1.hS.1)) ?_⟩
  rintro r ρ ⟨w, rfl, rfl, rfl⟩
  exact ⟨_, rfl, rfl, hR⟩
theorem ro_digest {μ : Mem}  (h : REL μ) : Mc kX8_digest [.inr (.inr 0)] μ (pL (fun z ν => Mc kX9_digest [.inr (.inr 9)] ν (pL (fun w ρ => z = w ∧ REL ρ)))) := by
  refine Mc.mono (c_X8_digest (hS := h.1.hS) (e12 := h.1.e12) (e57 := rfl) (hwt := h.1.hwt) (e100 := h.1.e100) (e101 := h.1.e101) (e120 := h.2.e120) (h121 := h.2.h121) (hQ := h.1.hQ) (hn := h.1.hn) (e10 := h.1.e10) (e11 := h.1.e11) (hhd := h.1.hhd) (hlv := h.1.hlv)) ?_
  rintro r ν ⟨z, rfl, rfl, hF⟩
  have hR := h.fr hF (by decide) (by decide)
  refine ⟨_, rfl, Mc.mono (c_X9_digest (e43 := hF.fn 43 rfl) (e122 := by rw [hF.fn 122 rfl]) (hn := h.1.hn) (ht := h.1.ht) (e47 := hF.fn 47 rfl) (e48 := hF.fn 48 rfl) (hhd := h.1.hhd) (hlv := h.1.hlv) (hS := hR.1.hS.1) (e57 := hF.fn 57 rfl) (hwt := h.1.hwt) (h121 := hR.2.h121)) ?_⟩
  rintro r ρ ⟨w, rfl, rfl, hG⟩
  have hm := hF.sm (by decide)
  refine ⟨_, rfl, ?_, hR.fr hG (by decide) (by decide)⟩
  have e : cnV (μ 43) (μ 122 0) ν = cnV (μ 43) (μ 122 0) μ := funext fun q => cnV_cg hm (hF.fn 57 rfl) (hF.fn 121 rfl)
  rw [dgst_cg hm, e]
theorem ro_type {b : Int} {μ : Mem} (h_b : -2147483648 ≤ b ∧ b < 2147483648) (h : REL μ) : Mc kX8_type [.inr (.inr 0), .inl b] μ (pI (fun z ν => Mc kX9_type [.inr (.inr 9), .inl b] ν (pI (fun w ρ => z = w ∧ REL ρ)))) := by
  refine Mc.mono (c_X8_type h_b h.1.e13 h.1.e100 h.1.hn h.1.ht) ?_
  rintro r ν ⟨z, rfl, hz⟩
  refine ⟨_, rfl, ?_⟩
  rcases hz with ⟨c, rfl, rfl⟩ | ⟨c, rfl, rfl⟩ | ⟨c, rfl, n13, n100, nQ, n101, hF⟩
  · refine Mc.mono (c_X9_type h_b rfl h.1.hn) ?_
    rintro r ρ ⟨w, rfl, hw⟩
    refine ⟨_, rfl, ?_⟩
    rcases hw with ⟨d, rfl, rfl⟩ | ⟨d, rfl, rfl⟩ | ⟨d, rfl, rfl⟩
    · exact ⟨rfl, h⟩
    · omega
    · omega
  · refine Mc.mono (c_X9_type h_b rfl h.1.hn) ?_
    rintro r ρ ⟨w, rfl, hw⟩
    refine ⟨_, rfl, ?_⟩
    rcases hw with ⟨d, rfl, rfl⟩ | ⟨d, rfl, rfl⟩ | ⟨d, rfl, rfl⟩
    · omega
    · exact ⟨rfl, h⟩
    · omega
  · refine Mc.mono (c_X9_type (n := μ 122 0) h_b (by rw [hF.fn 122 rfl]) h.1.hn) ?_
    rintro r ρ ⟨w, rfl, hw⟩
    refine ⟨_, rfl, ?_⟩
    rcases hw with ⟨d, rfl, rfl⟩ | ⟨d, rfl, rfl⟩ | ⟨d, rfl, rfl⟩
    · omega
    · omega
    · refine ⟨rfl, ?_, h.2.fr (F := [13, 14, 15, 16, 100, 101, 102, 103, 104, 43, 122]) ((hF.mono (by decide)).tr ((Fr.rf.wr (c := 43) (by decide)).wr (c := 122) (by decide))) (by decide)⟩
      have hG : Fr [43, 122] ν (wr (wr ν 43 (μ 122 0) b) 122 0 (μ 122 0 + 1)) := (Fr.rf.wr (c := 43) (by decide)).wr (c := 122) (by decide)
      have m43 : wr (wr ν 43 (μ 122 0) b) 122 0 (μ 122 0 + 1) 43 = upF (μ 43) (μ 122 0) b := by
        rw [wr_nc (by decide), wr_f, hF.fn 43 rfl]
        rfl
      have m122 : wr (wr ν 43 (μ 122 0) b) 122 0 (μ 122 0 + 1) 122 0 = μ 122 0 + 1 := by rw [wr_c, if_pos rfl]
      have hnn := h.1.hn
      have hE : Fr [13, 14, 15, 16, 100, 101, 102, 103, 104, 43, 122] μ (wr (wr ν 43 (μ 122 0) b) 122 0 (μ 122 0 + 1)) := (hF.mono (by decide)).tr (hG.mono (by decide))
      refine ⟨?_, ?_, ?_, ?_, ?_, ?_, ?_, ?_, ?_, ?_, ?_, ?_, ?_⟩
      · rw [m43, hG.fn 13 rfl]; exact n13
      · rw [m122, hG.fn 100 rfl]; exact n100
      · rw [m122]; omega
      · rw [m122, m43]
        intro k k0 k1
        unfold upF
        split
        · omega
        · exact h.1.ht k k0 (by omega)
      · rw [m122, m43]; exact nQ.fr hG (by decide)
      · rw [m122, m43, hG.fn 101 rfl]; exact n101
      · rw [hE.fn 10 rfl, hE.fn 47 rfl]; exact h.1.e10
      · rw [hE.fn 11 rfl, hE.fn 48 rfl]; exact h.1.e11
      · rw [hE.fn 12 rfl, hE.fn 57 rfl]; exact h.1.e12
      · rw [hE.fn 47 rfl]; exact h.1.hhd
      · rw [hE.fn 48 rfl]; exact h.1.hlv
      · rw [hE.fn 57 rfl]; exact h.1.hwt
      · exact (h.1.hS.fr hE (by decide)).k (hE.fn 58 rfl) (hE.fn 59 rfl) (hE.fn 60 rfl) (hE.fn 61 rfl) (hE.fn 62 rfl) (hE.fn 135 rfl)
theorem ro_wipe {μ : Mem}  (h : REL μ) : Mc kX8_wipe [.inr (.inr 0)] μ (pI (fun z ν => Mc kX9_wipe [.inr (.inr 9)] ν (pI (fun w ρ => z = w ∧ REL ρ)))) := by
  refine Mc.mono (c_X8_wipe h.1.e13 h.1.e100) ?_
  rintro r ν ⟨z, rfl, rfl, n100, nQ, n101, hF⟩
  refine ⟨_, rfl, Mc.mono (c_X9_wipe (n := μ 122 0) (by rw [hF.fn 122 rfl])) ?_⟩
  rintro r ρ ⟨w, rfl, rfl, rfl⟩
  refine ⟨_, rfl, rfl, ?_, h.2.fr (F := [14, 15, 16, 100, 101, 102, 103, 104, 122]) ((hF.mono (by decide)).tr (Fr.rf.wr (c := 122) (by decide))) (by decide)⟩
  have hG : Fr [122] ν (wr ν 122 0 0) := Fr.rf.wr (c := 122) (by decide)
  have m122 : wr ν 122 0 0 122 0 = 0 := by rw [wr_c, if_pos rfl]
  have hE : Fr [14, 15, 16, 100, 101, 102, 103, 104, 122] μ (wr ν 122 0 0) := (hF.mono (by decide)).tr (hG.mono (by decide))
  have m43 := hE.fn 43 rfl
  refine ⟨?_, ?_, ?_, ?_, ?_, ?_, ?_, ?_, ?_, ?_, ?_, ?_, ?_⟩
  · rw [m43, hE.fn 13 rfl]; exact h.1.e13
  · rw [m122, hG.fn 100 rfl]; exact n100
  · rw [m122]; omega
  · rw [m122]; intro k k0 k1; omega
  · rw [m122, m43]; exact nQ.fr hG (by decide)
  · rw [m122, m43, hG.fn 101 rfl]; exact n101
  · rw [hE.fn 10 rfl, hE.fn 47 rfl]; exact h.1.e10
  · rw [hE.fn 11 rfl, hE.fn 48 rfl]; exact h.1.e11
  · rw [hE.fn 12 rfl, hE.fn 57 rfl]; exact h.1.e12
  · rw [hE.fn 47 rfl]; exact h.1.hhd
  · rw [hE.fn 48 rfl]; exact h.1.hlv
  · rw [hE.fn 57 rfl]; exact h.1.hwt
  · exact (h.1.hS.fr hE (by decide)).k (hE.fn 58 rfl) (hE.fn 59 rfl) (hE.fn 60 rfl) (hE.fn 61 rfl) (hE.fn 62 rfl) (hE.fn 135 rfl)
theorem ro_holds {p v : Int} {μ : Mem} (h_p : -2147483648 ≤ p ∧ p < 2147483648) (h_v : -2147483648 ≤ v ∧ v < 2147483648) (h : REL μ) : Mc kX8_holds [.inr (.inr 0), .inl p, .inl v] μ (pI (fun z ν => Mc kX9_holds [.inr (.inr 9), .inl p, .inl v] ν (pI (fun w ρ => z = w ∧ REL ρ)))) := by
  refine Mc.mono (c_X8_holds h_p h_v) ?_
  rintro r ν ⟨z, rfl, hz⟩
  refine ⟨_, rfl, Mc.mono (c_X9_holds h_p h_v) ?_⟩
  rintro r ρ ⟨w, rfl, hw⟩
  refine ⟨_, rfl, ?_⟩
  rcases hz with ⟨c, rfl, rfl⟩ | ⟨c, rfl, rfl⟩
  · rcases hw with ⟨d, rfl, rfl⟩ | ⟨d, rfl, rfl⟩
    · exact ⟨rfl, h⟩
    · omega
  · rcases hw with ⟨d, rfl, rfl⟩ | ⟨d, rfl, rfl⟩
    · omega
    · have hE : Fr [10, 47] μ (wr (wr μ 10 p v) 47 p v) := (Fr.rf.wr (c := 10) (by decide)).wr (c := 47) (by decide)
      have m8 : wr (wr μ 10 p v) 47 p v 10 = fun k' => if k' = p then v else μ 10 k' := by rw [wr_nc (by decide), wr_f]
      have m9 : wr (wr μ 10 p v) 47 p v 47 = fun k' => if k' = p then v else μ 47 k' := by rw [wr_f, wr_nc (by decide)]
      refine ⟨by rw [wr_nc (by decide), h.1.e10], ?_, h.2.fr hE (by decide)⟩
      refine ⟨?_, ?_, ?_, ?_, ?_, ?_, ?_, ?_, ?_, ?_, ?_, ?_, ?_⟩
      · rw [hE.fn 13 rfl, hE.fn 43 rfl]; exact h.1.e13
      · rw [hE.fn 100 rfl, hE.fn 122 rfl]; exact h.1.e100
      · rw [hE.fn 122 rfl]; exact h.1.hn
      · rw [hE.fn 122 rfl, hE.fn 43 rfl]; exact h.1.ht
      · rw [hE.fn 122 rfl, hE.fn 43 rfl]; exact h.1.hQ.fr hE (by decide)
      · rw [hE.fn 101 rfl, hE.fn 122 rfl, hE.fn 43 rfl]; exact h.1.e101
      · rw [m8, m9, h.1.e10]
      · rw [hE.fn 11 rfl, hE.fn 48 rfl]; exact h.1.e11
      · rw [hE.fn 12 rfl, hE.fn 57 rfl]; exact h.1.e12
      · rw [m9]
        intro k k0 k1
        dsimp only
        split
        · omega
        · exact h.1.hhd k k0 k1
      · rw [hE.fn 48 rfl]; exact h.1.hlv
      · rw [hE.fn 57 rfl]; exact h.1.hwt
      · exact (h.1.hS.fr hE (by decide)).k (hE.fn 58 rfl) (hE.fn 59 rfl) (hE.fn 60 rfl) (hE.fn 61 rfl) (hE.fn 62 rfl) (hE.fn 135 rfl)
theorem ro_leaves {p v : Int} {μ : Mem} (h_p : -2147483648 ≤ p ∧ p < 2147483648) (h_v : -2147483648 ≤ v ∧ v < 2147483648) (h : REL μ) : Mc kX8_leaves [.inr (.inr 0), .inl p, .inl v] μ (pI (fun z ν => Mc kX9_leaves [.inr (.inr 9), .inl p, .inl v] ν (pI (fun w ρ => z = w ∧ REL ρ)))) := by
  refine Mc.mono (c_X8_leaves h_p h_v) ?_
  rintro r ν ⟨z, rfl, hz⟩
  refine ⟨_, rfl, Mc.mono (c_X9_leaves h_p h_v) ?_⟩
  rintro r ρ ⟨w, rfl, hw⟩
  refine ⟨_, rfl, ?_⟩
  rcases hz with ⟨c, rfl, rfl⟩ | ⟨c, rfl, rfl⟩
  · rcases hw with ⟨d, rfl, rfl⟩ | ⟨d, rfl, rfl⟩
    · exact ⟨rfl, h⟩
    · omega
  · rcases hw with ⟨d, rfl, rfl⟩ | ⟨d, rfl, rfl⟩
    · omega
    · have hE : Fr [11, 48] μ (wr (wr μ 11 p v) 48 p v) := (Fr.rf.wr (c := 11) (by decide)).wr (c := 48) (by decide)
      have m8 : wr (wr μ 11 p v) 48 p v 11 = fun k' => if k' = p then v else μ 11 k' := by rw [wr_nc (by decide), wr_f]
      have m9 : wr (wr μ 11 p v) 48 p v 48 = fun k' => if k' = p then v else μ 48 k' := by rw [wr_f, wr_nc (by decide)]
      refine ⟨by rw [wr_nc (by decide), h.1.e11], ?_, h.2.fr hE (by decide)⟩
      refine ⟨?_, ?_, ?_, ?_, ?_, ?_, ?_, ?_, ?_, ?_, ?_, ?_, ?_⟩
      · rw [hE.fn 13 rfl, hE.fn 43 rfl]; exact h.1.e13
      · rw [hE.fn 100 rfl, hE.fn 122 rfl]; exact h.1.e100
      · rw [hE.fn 122 rfl]; exact h.1.hn
      · rw [hE.fn 122 rfl, hE.fn 43 rfl]; exact h.1.ht
      · rw [hE.fn 122 rfl, hE.fn 43 rfl]; exact h.1.hQ.fr hE (by decide)
      · rw [hE.fn 101 rfl, hE.fn 122 rfl, hE.fn 43 rfl]; exact h.1.e101
      · rw [hE.fn 10 rfl, hE.fn 47 rfl]; exact h.1.e10
      · rw [m8, m9, h.1.e11]
      · rw [hE.fn 12 rfl, hE.fn 57 rfl]; exact h.1.e12
      · rw [hE.fn 47 rfl]; exact h.1.hhd
      · rw [m9]
        intro k k0 k1
        dsimp only
        split
        · omega
        · exact h.1.hlv k k0 k1
      · rw [hE.fn 57 rfl]; exact h.1.hwt
      · exact (h.1.hS.fr hE (by decide)).k (hE.fn 58 rfl) (hE.fn 59 rfl) (hE.fn 60 rfl) (hE.fn 61 rfl) (hE.fn 62 rfl) (hE.fn 135 rfl)
theorem ro_weight {p v : Int} {μ : Mem} (h_p : -2147483648 ≤ p ∧ p < 2147483648) (h_v : -2147483648 ≤ v ∧ v < 2147483648) (h : REL μ) : Mc kX8_weight [.inr (.inr 0), .inl p, .inl v] μ (pI (fun z ν => Mc kX9_weight [.inr (.inr 9), .inl p, .inl v] ν (pI (fun w ρ => z = w ∧ REL ρ)))) := by
  refine Mc.mono (c_X8_weight h_p h_v) ?_
  rintro r ν ⟨z, rfl, hz⟩
  refine ⟨_, rfl, Mc.mono (c_X9_weight h_p h_v) ?_⟩
  rintro r ρ ⟨w, rfl, hw⟩
  refine ⟨_, rfl, ?_⟩
  rcases hz with ⟨c, rfl, rfl⟩ | ⟨c, rfl, rfl⟩
  · rcases hw with ⟨d, rfl, rfl⟩ | ⟨d, rfl, rfl⟩
    · exact ⟨rfl, h⟩
    · omega
  · rcases hw with ⟨d, rfl, rfl⟩ | ⟨d, rfl, rfl⟩
    · omega
    · have hE : Fr [12, 57] μ (wr (wr μ 12 p v) 57 p v) := (Fr.rf.wr (c := 12) (by decide)).wr (c := 57) (by decide)
      have m8 : wr (wr μ 12 p v) 57 p v 12 = fun k' => if k' = p then v else μ 12 k' := by rw [wr_nc (by decide), wr_f]
      have m9 : wr (wr μ 12 p v) 57 p v 57 = fun k' => if k' = p then v else μ 57 k' := by rw [wr_f, wr_nc (by decide)]
      refine ⟨by rw [wr_nc (by decide), h.1.e12], ?_, h.2.fr hE (by decide)⟩
      refine ⟨?_, ?_, ?_, ?_, ?_, ?_, ?_, ?_, ?_, ?_, ?_, ?_, ?_⟩
      · rw [hE.fn 13 rfl, hE.fn 43 rfl]; exact h.1.e13
      · rw [hE.fn 100 rfl, hE.fn 122 rfl]; exact h.1.e100
      · rw [hE.fn 122 rfl]; exact h.1.hn
      · rw [hE.fn 122 rfl, hE.fn 43 rfl]; exact h.1.ht
      · rw [hE.fn 122 rfl, hE.fn 43 rfl]; exact h.1.hQ.fr hE (by decide)
      · rw [hE.fn 101 rfl, hE.fn 122 rfl, hE.fn 43 rfl]; exact h.1.e101
      · rw [hE.fn 10 rfl, hE.fn 47 rfl]; exact h.1.e10
      · rw [hE.fn 11 rfl, hE.fn 48 rfl]; exact h.1.e11
      · rw [m8, m9, h.1.e12]
      · rw [hE.fn 47 rfl]; exact h.1.hhd
      · rw [hE.fn 48 rfl]; exact h.1.hlv
      · rw [m9]
        intro k k0 k1
        dsimp only
        split
        · omega
        · exact h.1.hwt k k0 k1
      · exact (h.1.hS.fr hE (by decide)).k (hE.fn 58 rfl) (hE.fn 59 rfl) (hE.fn 60 rfl) (hE.fn 61 rfl) (hE.fn 62 rfl) (hE.fn 135 rfl)
/-- what is seen alone changed -/
theorem R0.seen {μ ν : Mem} (h : R0 μ) (hF : Fr [31, 32, 33, 34, 35, 119, 58, 59, 60, 61, 62, 135, 120, 121] μ ν) (hS : SQ ν ν) : R0 ν := by
  refine ⟨?_, ?_, ?_, ?_, ?_, ?_, ?_, ?_, ?_, ?_, ?_, ?_, hS⟩
  · rw [hF.fn 13 rfl, hF.fn 43 rfl]; exact h.e13
  · rw [hF.fn 100 rfl, hF.fn 122 rfl]; exact h.e100
  · rw [hF.fn 122 rfl]; exact h.hn
  · rw [hF.fn 122 rfl, hF.fn 43 rfl]; exact h.ht
  · rw [hF.fn 122 rfl, hF.fn 43 rfl]; exact h.hQ.fr hF (by decide)
  · rw [hF.fn 101 rfl, hF.fn 122 rfl, hF.fn 43 rfl]; exact h.e101
  · rw [hF.fn 10 rfl, hF.fn 47 rfl]; exact h.e10
  · rw [hF.fn 11 rfl, hF.fn 48 rfl]; exact h.e11
  · rw [hF.fn 12 rfl, hF.fn 57 rfl]; exact h.e12
  · rw [hF.fn 47 rfl]; exact h.hhd
  · rw [hF.fn 48 rfl]; exact h.hlv
  · rw [hF.fn 57 rfl]; exact h.hwt
theorem ro_saw {a b c d e : Int} {μ : Mem} (h_a : -2147483648 ≤ a ∧ a < 2147483648) (h_b : -2147483648 ≤ b ∧ b < 2147483648) (h_c : -2147483648 ≤ c ∧ c < 2147483648) (h_d : -2147483648 ≤ d ∧ d < 2147483648) (h_e : -2147483648 ≤ e ∧ e < 2147483648) (h : REL μ) : Mc kX8_saw [.inr (.inr 0), .inl a, .inl b, .inl c, .inl d, .inl e] μ (pI (fun z ν => Mc kX9_saw [.inr (.inr 9), .inl a, .inl b, .inl c, .inl d, .inl e] ν (pI (fun w ρ => z = w ∧ REL ρ)))) := by
  refine Mc.mono (c_X8_saw h.1.hS h_a h_b h_c h_d h_e) ?_
  rintro r ν ⟨z, rfl, rfl, nS, hF⟩
  have hm := hF.sm (by decide)
  refine ⟨_, rfl, Mc.mono (c_X9_saw (by rw [hm.2.2.2.2.2]; exact h.1.hS.1.1) h_a h_b h_c h_d h_e) ?_⟩
  rintro r ρ ⟨w, rfl, rfl, rfl⟩
  obtain ⟨hc1, hc2⟩ := saw_cg (a := a) (b := b) (c := c) (d := d) (e := e) hm
  have hG := sawF_Fr (κ := ν) (a := a) (b := b) (c := c) (d := d) (e := e)
  refine ⟨_, rfl, hc1.symm, h.1.seen ((hF.mono (by decide)).tr (hG.mono (by decide))) ?_, h.2.fr ((hF.mono (E := [31, 32, 33, 34, 35, 119, 58, 59, 60, 61, 62, 135]) (by decide)).tr (hG.mono (by decide))) (by decide)⟩
  exact (nS.fr hG (by decide)).k hc2.1 hc2.2.1 hc2.2.2.1 hc2.2.2.2.1 hc2.2.2.2.2.1 hc2.2.2.2.2.2
theorem ro_read {sh a : Int} {μ : Mem} (h_sh : -2147483648 ≤ sh ∧ sh < 2147483648) (h_a : -2147483648 ≤ a ∧ a < 2147483648) (h : REL μ) : Mc kX8_read [.inr (.inr 0), .inl sh, .inl a] μ (pI (fun z ν => Mc kX9_read [.inr (.inr 9), .inl sh, .inl a] ν (pI (fun w ρ => z = w ∧ REL ρ)))) := by
  refine Mc.mono (c_X8_read h_sh h_a h.1.hS h.2.za h.2.hi8 h.2.rl) ?_
  rintro r ν ⟨z, rfl, rfl, nS, hF, n120⟩
  have hm := hF.sm (by decide)
  have e39 := hF.fn 39 rfl
  have e40 := hF.fn 40 rfl
  have e41 := hF.fn 41 rfl
  refine ⟨_, rfl, Mc.mono (c_X9_read h_sh h_a (h.1.hS.1.fr hm.1 hm.2.1 hm.2.2.1 hm.2.2.2.1 hm.2.2.2.2.1 hm.2.2.2.2.2) (by rw [e41]; exact h.2.hi9) (by rw [e40]; exact h.2.sz) (by rw [e39]; exact h.2.fm')) ?_⟩
  rintro r ρ ⟨w, rfl, rfl, rfl⟩
  refine ⟨_, rfl, ?_⟩
  have hc : (rdR ν sh a).2 = (rdR μ sh a).2 ∧ Sm (rdR μ sh a).1 (rdR ν sh a).1 ∧ Fr [58, 59, 60, 61, 62, 135, 121] ν (rdR ν sh a).1 ∧ (rdR ν sh a).1 121 0 = (if ((0 ≤ sh ∧ sh ≤ 3) ∧ (0 ≤ a ∧ a ≤ 3)) ∧ μ 39 sh < 0 then 1 else ν 121 0) := by
    unfold rdR
    rw [e39, e40, e41]
    by_cases hv : (0 ≤ sh ∧ sh ≤ 3) ∧ (0 ≤ a ∧ a ≤ 3)
    · rw [if_pos hv, if_pos hv]
      by_cases hl : μ 39 sh < 0
      · rw [if_pos hl, if_pos hl, if_pos ⟨hv, hl⟩]
        refine ⟨rfl, ?_, Fr.rf.wr (c := 121) (by decide), by dsimp only; rw [wr_c, if_pos rfl]⟩
        unfold Sm
        dsimp only
        rw [wr_nc (by decide), wr_nc (by decide), wr_nc (by decide), wr_nc (by decide), wr_nc (by decide), wr_nc (by decide), wr_nc (by decide), wr_nc (by decide), wr_nc (by decide), wr_nc (by decide), wr_nc (by decide), wr_nc (by decide)]
        exact hm
      · rw [if_neg hl, if_neg hl, if_neg (fun q => hl q.2)]
        have h1 := rd_cg (a := a) (it := fun k => μ 41 (60 * sh + k)) (sz := μ 40 sh) hm
        have h2 := (rdN_in (κ := ν) (a := a) (it := fun k => μ 41 (60 * sh + k)) (sz := μ 40 sh) 20).2.2.2.1
        exact ⟨h1.1, h1.2, h2.mono (by decide), h2.at 121 rfl 0⟩
    · rw [if_neg hv, if_neg hv, if_neg (fun q => hv q.1)]
      exact ⟨rfl, hm, Fr.rf, rfl⟩
  obtain ⟨hc1, hc2, hG, h121⟩ := hc
  have e120 := h.2.e120
  have r121 := h.2.h121
  have m120 := hG.at 120 rfl 0
  have hE : Fr [31, 32, 33, 34, 35, 119, 58, 59, 60, 61, 62, 135, 120, 121] μ (rdR ν sh a).1 := (hF.mono (by decide)).tr (hG.mono (by decide))
  have n121 := hF.at 121 rfl 0
  refine ⟨hc1.symm, h.1.seen hE ((nS.fr hG (by decide)).k hc2.1 hc2.2.1 hc2.2.2.1 hc2.2.2.2.1 hc2.2.2.2.2.1 hc2.2.2.2.2.2), ?_, ?_, ?_, ?_, ?_⟩
  · rw [hE.fn 36 rfl, hE.fn 37 rfl, hE.fn 38 rfl, hE.fn 39 rfl, hE.fn 40 rfl, hE.fn 41 rfl]; exact h.2.hsh
  · rw [hE.fn 38 rfl]; exact h.2.hi8
  · rw [hE.fn 41 rfl]; exact h.2.hi9
  · rw [m120, h121, n120]
    split
    · rfl
    · omega
  · rw [h121]
    split
    · omega
    · omega
