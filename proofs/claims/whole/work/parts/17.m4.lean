theorem hr_in {tx : Int → Int} {n a : Int} (h0 : 0 ≤ a) (ht : ∀ k, 0 ≤ k → k < n → 0 ≤ tx k ∧ tx k ≤ 255) : -1 ≤ hr tx n a ∧ hr tx n a ≤ 255 := by
  unfold hr
  split
  · have := ht a h0 (by omega)
    omega
  · omega
def RM (tx : Int → Int) (n : Int) (ν : Mem) : Prop := ν 124 0 = pPe tx n ∧ ν 125 0 = pTa tx n ∧ (∀ k : Int, 0 ≤ k → k < 3 → ν 46 k = pLa tx n k) ∧ (∀ k : Int, 0 ≤ k → k < 4 * pPe tx n → ν 44 k = pPr tx n k) ∧ (∀ k : Int, 0 ≤ k → k < pTa tx n → ν 45 k = pFu tx n k)
def RP (s : PS) (ν : Mem) : Prop := ν 123 0 = s.1 ∧ ν 124 0 = s.2.1 ∧ ν 125 0 = s.2.2.1 ∧ (∀ k : Int, 0 ≤ k → k < 3 → ν 46 k = s.2.2.2.1 k) ∧ (∀ k : Int, 0 ≤ k → k < 4 * s.2.1 → ν 44 k = s.2.2.2.2.1 k) ∧ (∀ k : Int, 0 ≤ k → k < s.2.2.1 → ν 45 k = s.2.2.2.2.2 k)
theorem c_X9_here {tx : Int → Int} {n a : Int} {μ : Mem} (e43 : μ 43 = tx) (e122 : μ 122 0 = n) (e123 : μ 123 0 = a) (hn : 0 ≤ n ∧ n ≤ 60) (ha : 0 ≤ a ∧ a ≤ 100) : Mc kX9_here [.inr (.inr 9)] μ (pI (fun z ν => hr tx n a = z ∧ μ = ν)) := by
  refine Mc_of (by decide +kernel) (fun _ => Nat.le_of_ble_eq_true rfl) ?_
  show AW kX9_here 0 [some (.inr (.inr 9))] [] μ _
  refine s_aload_0 (pc := 0) dX9_here_0 ?_
  refine gfX9_123 (pc := 1) dX9_here_1 rfl ?_
  refine s_aload_0 (pc := 4) dX9_here_4 ?_
  refine gfX9_120 (pc := 5) dX9_here_5 rfl ?_
  refine s_icmp_ge (pc := 8) 23 dX9_here_8 rfl (by omega) (by omega) (fun h8 => ?_) (fun h8 => ?_)
  · refine s_iconst_m1 (pc := 23) dX9_here_23 ?_
    refine s_ireturn (pc := 24) dX9_here_24 rfl ?_
    refine ⟨?_, rfl⟩
    first | (rw [hr, if_pos (by omega), e43, e123]; done) | rw [hr, if_neg (by omega)]
  · refine s_aload_0 (pc := 11) dX9_here_11 ?_
    refine gfX9_22 (pc := 12) dX9_here_12 rfl ?_
    refine s_aload_0 (pc := 15) dX9_here_15 ?_
    refine gfX9_123 (pc := 16) dX9_here_16 rfl ?_
    refine z_iaload (pc := 19) dX9_here_19 ly_43 (by omega) (by omega) ?_
    refine s_goto (pc := 20) 24 dX9_here_20 rfl ?_
    refine s_ireturn (pc := 24) dX9_here_24 rfl ?_
    refine ⟨?_, rfl⟩
    first | (rw [hr, if_pos (by omega), e43, e123]; done) | rw [hr, if_neg (by omega)]
theorem c_X9_figure {tx : Int → Int} {n a hi : Int} {μ : Mem} (e43 : μ 43 = tx) (e122 : μ 122 0 = n) (e123 : μ 123 0 = a) (hn : 0 ≤ n ∧ n ≤ 60) (ha : 0 ≤ a ∧ a ≤ 100) (ht : ∀ k : Int, 0 ≤ k → k < n → 0 ≤ tx k ∧ tx k ≤ 255) (hh : 0 ≤ hi ∧ hi ≤ 9) : Mc kX9_figure [.inr (.inr 9), .inl hi] μ (pI (fun z ν => ((48 ≤ hr tx n a ∧ hr tx n a ≤ 48 + hi) ∧ hr tx n a - 48 = z ∧ wr μ 123 0 (a + 1) = ν) ∨ ((hr tx n a < 48 ∨ 48 + hi < hr tx n a) ∧ -1 = z ∧ μ = ν))) := by
  refine Mc_of (by decide +kernel) (fun _ => Nat.le_of_ble_eq_true rfl) ?_
  show AW kX9_figure 0 [some (.inr (.inr 9)), some (.inl hi), none] [] μ _
  have hh2 := hr_in ha.1 ht (n := n)
  refine s_aload_0 (pc := 0) dX9_figure_0 ?_
  refine cV0i (pc := 1) (Ky := kX9_here) dX9_figure_1 rfl lnX9_132 okX9_here ⟨9, TX9, 40, rfl, rfl⟩ ⟨Nat.le_of_ble_eq_true rfl, Nat.le_of_ble_eq_true rfl⟩ (Nat.le_of_ble_eq_true rfl) (c_X9_here e43 e122 e123 hn ha) ?_
  rintro _ _ ⟨rfl, rfl⟩
  refine s_bipush (pc := 4) (z := 48) dX9_figure_4 rfl ?_
  refine s_isub (pc := 6) dX9_figure_6 ?_
  refine s_istore_2 (pc := 7) dX9_figure_7 (Nat.le_of_ble_eq_true rfl) rfl ?_
  refine s_iload_2 (pc := 8) dX9_figure_8 ?_
  refine s_i2l (pc := 9) dX9_figure_9 (by omega) ?_
  refine s_lconst_0 (pc := 10) dX9_figure_10 ?_
  refine s_iload_1 (pc := 11) dX9_figure_11 ?_
  refine s_i2l (pc := 12) dX9_figure_12 (by omega) ?_
  refine cS3i (pc := 13) (Ky := kX9_in) dX9_figure_13 rfl lnX9_89 okX9_in ⟨Nat.le_of_ble_eq_true rfl, Nat.le_of_ble_eq_true rfl⟩ (Nat.le_of_ble_eq_true rfl) (c_X9_in (by omega) (by omega) (by omega)) ?_
  rintro _ _ ⟨rfl, rfl⟩
  refine s_if_ne (pc := 16) 21 dX9_figure_16 rfl (by omega) (fun h16 => ?_) (fun h16 => ?_)
  · refine s_aload_0 (pc := 21) dX9_figure_21 ?_
    refine s_dup (pc := 22) dX9_figure_22 rfl ?_
    refine gfX9_123 (pc := 23) dX9_figure_23 rfl ?_
    refine s_iconst_1 (pc := 26) dX9_figure_26 ?_
    refine s_iadd (pc := 27) dX9_figure_27 ?_
    rw [e123]
    refine pfX9_123 (pc := 28) dX9_figure_28 rfl ?_
    refine s_iload_2 (pc := 31) dX9_figure_31 ?_
    refine s_ireturn (pc := 32) dX9_figure_32 rfl ?_
    first | exact Or.inl (⟨by omega, by omega, rfl⟩) | exact Or.inr (⟨by omega, by omega, rfl⟩) | (exfalso; omega)
  · refine s_iconst_m1 (pc := 19) dX9_figure_19 ?_
    refine s_ireturn (pc := 20) dX9_figure_20 rfl ?_
    first | exact Or.inl (⟨by omega, by omega, rfl⟩) | exact Or.inr (⟨by omega, by omega, rfl⟩) | (exfalso; omega)
