/-! ===== the class's room ===== -/
def RPc (s : PS) (ν : Mem) : Prop := ν 104 0 = s.1 ∧ ν 102 0 = s.2.1 ∧ ν 103 0 = s.2.2.1 ∧ (∀ k : Int, 0 ≤ k → k < 3 → ν 16 k = s.2.2.2.1 k) ∧ (∀ k : Int, 0 ≤ k → k < 4 * s.2.1 → ν 14 k = s.2.2.2.2.1 k) ∧ (∀ k : Int, 0 ≤ k → k < s.2.2.1 → ν 15 k = s.2.2.2.2.2 k)
def RMc (tx : Int → Int) (n : Int) (ν : Mem) : Prop := ν 102 0 = pPe tx n ∧ ν 103 0 = pTa tx n ∧ (∀ k : Int, 0 ≤ k → k < 3 → ν 16 k = pLa tx n k) ∧ (∀ k : Int, 0 ≤ k → k < 4 * pPe tx n → ν 14 k = pPr tx n k) ∧ (∀ k : Int, 0 ≤ k → k < pTa tx n → ν 15 k = pFu tx n k)
theorem part_pC {tx : Int → Int} {n z : Int} {s : PS} {μ ν : Mem} (h : hr tx n s.1 = 112) (hR : RPc s μ) (hq : (s.2.1 = 4 ∧ 0 = z ∧ μ = ν) ∨ (s.2.1 ≠ 4 ∧ f4 tx n (s.1 + 1) = 4 ∧ 1 = z ∧ Fr [104, 102, 14] μ ν ∧ ν 104 0 = s.1 + 5 ∧ ν 102 0 = s.2.1 + 1 ∧ ∀ j, ν 14 j = up4 (μ 14) (4 * s.2.1) tx n (s.1 + 1) j) ∨ (s.2.1 ≠ 4 ∧ f4 tx n (s.1 + 1) < 4 ∧ 0 = z ∧ Fr [104, 102, 14] μ ν ∧ ν 104 0 = s.1 + 1 + f4 tx n (s.1 + 1))) : (∃ t, partF tx n s = .inr t ∧ 1 = z ∧ RPc t ν ∧ Fr [14, 15, 16, 104, 102, 103] μ ν) ∨ (∃ p, partF tx n s = .inl p ∧ 0 = z ∧ ν 104 0 = p ∧ Fr [14, 15, 16, 104, 102, 103] μ ν) := by
  obtain ⟨e104, e102, e103, q16, q14, q15⟩ := hR
  have hp : partF tx n s = personF tx n s := by unfold partF; rw [if_pos h]
  rcases hq with ⟨h1, h2, rfl⟩ | ⟨h1, h2, h3, hF, h4, h5, h6⟩ | ⟨h1, h2, h3, hF, h4⟩
  · exact Or.inr ⟨s.1, by rw [hp, personF, if_pos h1], h2, e104, Fr.rf⟩
  · refine Or.inl ⟨(s.1 + 5, s.2.1 + 1, s.2.2.1, s.2.2.2.1, up4 s.2.2.2.2.1 (4 * s.2.1) tx n (s.1 + 1), s.2.2.2.2.2), by rw [hp, personF, if_neg h1, if_pos h2], h3, ⟨h4, h5, ?_, ?_, ?_, ?_⟩, hF.mono (by decide)⟩
    · exact (hF.at 103 rfl 0).trans e103
    · intro k k0 k1; rw [hF.at 16 rfl k]; exact q16 k k0 k1
    · intro k k0 k1
      dsimp only at k1 ⊢
      rw [h6 k]
      unfold up4
      by_cases hk : 4 * s.2.1 ≤ k ∧ k < 4 * s.2.1 + 4
      · rw [if_pos hk, if_pos hk]
      · rw [if_neg hk, if_neg hk]; exact q14 k k0 (by omega)
    · intro k k0 k1; rw [hF.at 15 rfl k]; exact q15 k k0 k1
  · exact Or.inr ⟨_, by rw [hp, personF, if_neg h1, if_neg (by omega)], h3, h4, hF.mono (by decide)⟩
theorem part_tC {tx : Int → Int} {n z : Int} {s : PS} {μ ν : Mem} (h : hr tx n s.1 = 116) (hR : RPc s μ) (hq : (s.2.2.1 = 4 ∧ 0 = z ∧ μ = ν) ∨ ((s.2.2.1 ≠ 4 ∧ fg tx n (s.1 + 1) 9) ∧ 1 = z ∧ Fr [104, 103, 15] μ ν ∧ ν 104 0 = s.1 + 2 ∧ ν 103 0 = s.2.2.1 + 1 ∧ ∀ j, ν 15 j = upF (μ 15) s.2.2.1 (hr tx n (s.1 + 1) - 48) j) ∨ ((s.2.2.1 ≠ 4 ∧ ¬ fg tx n (s.1 + 1) 9) ∧ 0 = z ∧ Fr [104, 103, 15] μ ν ∧ ν 104 0 = s.1 + 1)) : (∃ t, partF tx n s = .inr t ∧ 1 = z ∧ RPc t ν ∧ Fr [14, 15, 16, 104, 102, 103] μ ν) ∨ (∃ p, partF tx n s = .inl p ∧ 0 = z ∧ ν 104 0 = p ∧ Fr [14, 15, 16, 104, 102, 103] μ ν) := by
  obtain ⟨e104, e102, e103, q16, q14, q15⟩ := hR
  have hp : partF tx n s = taleF tx n s := by unfold partF; rw [if_neg (by omega), if_pos h]
  rcases hq with ⟨h1, h2, rfl⟩ | ⟨⟨h1, h2⟩, h3, hF, h4, h5, h6⟩ | ⟨⟨h1, h2⟩, h3, hF, h4⟩
  · exact Or.inr ⟨s.1, by rw [hp, taleF, if_pos h1], h2, e104, Fr.rf⟩
  · refine Or.inl ⟨(s.1 + 2, s.2.1, s.2.2.1 + 1, s.2.2.2.1, s.2.2.2.2.1, upF s.2.2.2.2.2 s.2.2.1 (hr tx n (s.1 + 1) - 48)), by rw [hp, taleF, if_neg h1, if_pos h2], h3, ⟨h4, ?_, h5, ?_, ?_, ?_⟩, hF.mono (by decide)⟩
    · exact (hF.at 102 rfl 0).trans e102
    · intro k k0 k1; rw [hF.at 16 rfl k]; exact q16 k k0 k1
    · intro k k0 k1; rw [hF.at 14 rfl k]; exact q14 k k0 k1
    · intro k k0 k1
      dsimp only at k1 ⊢
      rw [h6 k]
      unfold upF
      by_cases hk : k = s.2.2.1
      · rw [if_pos hk, if_pos hk]
      · rw [if_neg hk, if_neg hk]; exact q15 k k0 (by omega)
  · exact Or.inr ⟨_, by rw [hp, taleF, if_neg h1, if_neg h2], h3, h4, hF.mono (by decide)⟩
theorem part_lC {tx : Int → Int} {n z w hi : Int} {s : PS} {μ ν : Mem} (hp : partF tx n s = ruleF tx n s w hi) (hR : RPc s μ) (hq : (fg tx n (s.1 + 1) hi ∧ 1 = z ∧ Fr [104, 16] μ ν ∧ ν 104 0 = s.1 + 2 ∧ ∀ j, ν 16 j = upF (μ 16) w (hr tx n (s.1 + 1) - 48) j) ∨ (¬ fg tx n (s.1 + 1) hi ∧ 0 = z ∧ Fr [104, 16] μ ν ∧ ν 104 0 = s.1 + 1)) : (∃ t, partF tx n s = .inr t ∧ 1 = z ∧ RPc t ν ∧ Fr [14, 15, 16, 104, 102, 103] μ ν) ∨ (∃ p, partF tx n s = .inl p ∧ 0 = z ∧ ν 104 0 = p ∧ Fr [14, 15, 16, 104, 102, 103] μ ν) := by
  obtain ⟨e104, e102, e103, q16, q14, q15⟩ := hR
  rcases hq with ⟨h2, h3, hF, h4, h6⟩ | ⟨h2, h3, hF, h4⟩
  · refine Or.inl ⟨(s.1 + 2, s.2.1, s.2.2.1, upF s.2.2.2.1 w (hr tx n (s.1 + 1) - 48), s.2.2.2.2.1, s.2.2.2.2.2), by rw [hp, ruleF, if_pos h2], h3, ⟨h4, ?_, ?_, ?_, ?_, ?_⟩, hF.mono (by decide)⟩
    · exact (hF.at 102 rfl 0).trans e102
    · exact (hF.at 103 rfl 0).trans e103
    · intro k k0 k1
      dsimp only
      rw [h6 k]
      unfold upF
      by_cases hk : k = w
      · rw [if_pos hk, if_pos hk]
      · rw [if_neg hk, if_neg hk]; exact q16 k k0 k1
    · intro k k0 k1; rw [hF.at 14 rfl k]; exact q14 k k0 k1
    · intro k k0 k1; rw [hF.at 15 rfl k]; exact q15 k k0 k1
  · exact Or.inr ⟨_, by rw [hp, ruleF, if_neg h2], h3, h4, hF.mono (by decide)⟩
theorem RM_ofC {tx : Int → Int} {n : Int} {t : PS} {ν : Mem} (h : resF tx n = .inr t) (hR : RPc t ν) : pFa tx n = -1 ∧ RMc tx n ν := by
  have he : pEnd tx n = t := by unfold pEnd; rw [h]
  obtain ⟨a1, a2, a3, a4, a5, a6⟩ := hR
  refine ⟨by unfold pFa; rw [h], ?_, ?_, ?_, ?_, ?_⟩
  · unfold pPe; rw [he]; exact a2
  · unfold pTa; rw [he]; exact a3
  · unfold pLa; rw [he]; exact a4
  · unfold pPe pPr; rw [he]; exact a5
  · unfold pTa pFu; rw [he]; exact a6
theorem RM_noC {tx : Int → Int} {n p : Int} {ν : Mem} (h : resF tx n = .inl p) (h1 : ν 102 0 = 0) (h2 : ν 103 0 = 0) (h3 : ∀ k : Int, 0 ≤ k → k < 3 → ν 16 k = 0) : pFa tx n = p ∧ RMc tx n ν := by
  have he : pEnd tx n = s0 := by unfold pEnd; rw [h]
  refine ⟨by unfold pFa; rw [h], ?_, ?_, ?_, ?_, ?_⟩
  · unfold pPe; rw [he]; exact h1
  · unfold pTa; rw [he]; exact h2
  · unfold pLa; rw [he]; exact h3
  · unfold pPe; rw [he]; intro k k0 k1; dsimp only [s0] at k1; omega
  · unfold pTa; rw [he]; intro k k0 k1; dsimp only [s0] at k1; omega
theorem c_X3_sign {tx : Int → Int} {n a : Int} {μ : Mem} (e13 : μ 13 = tx) (e100 : μ 100 0 = n) (e104 : μ 104 0 = a) (hn : 0 ≤ n ∧ n ≤ 60) (ha : 0 ≤ a ∧ a ≤ 100) : Mc kX3_sign [.inr (.inr 1)] μ (pI (fun z ν => hr tx n a = z ∧ μ = ν)) := by
  refine Mc_of (by decide +kernel) (fun _ => Nat.le_of_ble_eq_true rfl) ?_
  show AW kX3_sign 0 [some (.inr (.inr 1))] [] μ _
  refine s_aload_0 (pc := 0) dX3_sign_0 ?_
  refine gfX3_47 (pc := 1) dX3_sign_1 rfl ?_
  try rw [e104]
  try rw [e100]
  try rw [e13]
  refine s_aload_0 (pc := 4) dX3_sign_4 ?_
  refine gfX3_28 (pc := 5) dX3_sign_5 rfl ?_
  try rw [e104]
  try rw [e100]
  try rw [e13]
  refine s_icmp_ge (pc := 8) 23 dX3_sign_8 rfl (by omega) (by omega) (fun h8 => ?_) (fun h8 => ?_)
  · refine s_iconst_m1 (pc := 23) dX3_sign_23 ?_
    refine s_ireturn (pc := 24) dX3_sign_24 rfl ?_
    refine ⟨?_, rfl⟩
    first | (rw [hr, if_pos (by omega)]; done) | rw [hr, if_neg (by omega)]
  · refine s_aload_0 (pc := 11) dX3_sign_11 ?_
    refine gfX3_9 (pc := 12) dX3_sign_12 rfl ?_
    refine s_aload_0 (pc := 15) dX3_sign_15 ?_
    refine gfX3_47 (pc := 16) dX3_sign_16 rfl ?_
    try rw [e104]
    try rw [e100]
    try rw [e13]
    refine z_iaload (pc := 19) dX3_sign_19 ly_13 (by omega) (by omega) ?_
    try rw [e104]
    try rw [e100]
    try rw [e13]
    refine s_goto (pc := 20) 24 dX3_sign_20 rfl ?_
    refine s_ireturn (pc := 24) dX3_sign_24 rfl ?_
    refine ⟨?_, rfl⟩
    first | (rw [hr, if_pos (by omega)]; done) | rw [hr, if_neg (by omega)]
theorem c_X3_isFigure {tx : Int → Int} {n a hi : Int} {μ : Mem} (e13 : μ 13 = tx) (e100 : μ 100 0 = n) (e104 : μ 104 0 = a) (hn : 0 ≤ n ∧ n ≤ 60) (ha : 0 ≤ a ∧ a ≤ 100) (ht : ∀ k : Int, 0 ≤ k → k < n → 0 ≤ tx k ∧ tx k ≤ 255) (hh : 0 ≤ hi ∧ hi ≤ 9) : Mc kX3_isFigure [.inr (.inr 1), .inl hi] μ (pI (fun z ν => (if fg tx n a hi then 1 else 0) = z ∧ μ = ν)) := by
  refine Mc_of (by decide +kernel) (fun _ => Nat.le_of_ble_eq_true rfl) ?_
  show AW kX3_isFigure 0 [some (.inr (.inr 1)), some (.inl hi)] [] μ _
  have hh2 := hr_in ha.1 ht (n := n)
  refine s_aload_0 (pc := 0) dX3_isFigure_0 ?_
  refine cV0i (pc := 1) (Ky := kX3_sign) dX3_isFigure_1 rfl lnX3_53 okX3_sign ⟨3, TX3, 9, rfl, rfl⟩ ⟨Nat.le_of_ble_eq_true rfl, Nat.le_of_ble_eq_true rfl⟩ (Nat.le_of_ble_eq_true rfl) (c_X3_sign e13 e100 e104 hn ha) ?_
  rintro _ _ ⟨rfl, rfl⟩
  refine s_bipush (pc := 4) (z := 48) dX3_isFigure_4 rfl ?_
  refine s_isub (pc := 6) dX3_isFigure_6 ?_
  refine s_iload_1 (pc := 7) dX3_isFigure_7 ?_
  refine cN2i (pc := 8) (Ky := kX8_within) dX3_isFigure_8 rfl nsX3_71 okX8_within ⟨Nat.le_of_ble_eq_true rfl, Nat.le_of_ble_eq_true rfl⟩ (Nat.le_of_ble_eq_true rfl) (c_X8_within (by omega) (by omega)) ?_
  rintro _ _ ⟨rfl, rfl⟩
  refine s_zreturn (pc := 11) dX3_isFigure_11 rfl (by omega) ?_
  exact ⟨by unfold fg; omega, rfl⟩
theorem lp_X3_readPerson {tx : Int → Int} {n a pe : Int} {μ : Mem} (e13 : μ 13 = tx) (e100 : μ 100 0 = n) (e102 : μ 102 0 = pe) (hn : 0 ≤ n ∧ n ≤ 60) (ha : 0 ≤ a ∧ a ≤ 90) (hpe : 0 ≤ pe ∧ pe < 4) (ht : ∀ k : Int, 0 ≤ k → k < n → 0 ≤ tx k ∧ tx k ≤ 255) : ∀ (f : Nat) (k : Int) (ν : Mem), (0 ≤ k) → (k ≤ 4) → (Fr [104, 14] μ ν) → (ν 104 0 = a + 1 + k) → (∀ j : Int, 0 ≤ j → j < k → fg tx n (a + 1 + j) 9) → (∀ j : Int, ν 14 j = if 4 * pe ≤ j ∧ j < 4 * pe + k then hr tx n (a + 1 + (j - 4 * pe)) - 48 else μ 14 j) → 4 - k < (f : Int) → AW kX3_readPerson 22 [some (.inr (.inr 1)), some (.inl k)] [] ν (pI (fun z ν => (pe = 4 ∧ 0 = z ∧ μ = ν) ∨ (pe ≠ 4 ∧ f4 tx n (a + 1) = 4 ∧ 1 = z ∧ Fr [104, 102, 14] μ ν ∧ ν 104 0 = a + 5 ∧ ν 102 0 = pe + 1 ∧ ∀ j, ν 14 j = up4 (μ 14) (4 * pe) tx n (a + 1) j) ∨ (pe ≠ 4 ∧ f4 tx n (a + 1) < 4 ∧ 0 = z ∧ Fr [104, 102, 14] μ ν ∧ ν 104 0 = a + 1 + f4 tx n (a + 1)))) := by
  intro f
  induction f with
  | zero =>
    intro k ν h0 h1 hF e3 hv hw hm
    exfalso; omega
  | succ f ih =>
    intro k ν h0 h1 hF e3 hv hw hm
    have f13 : ν 13 = tx := (hF.fn 13 rfl).trans e13
    have f100 : ν 100 0 = n := (hF.at 100 rfl 0).trans e100
    have f102 : ν 102 0 = pe := (hF.at 102 rfl 0).trans e102
    refine s_iload_1 (pc := 22) dX3_readPerson_22 ?_
    refine s_iconst_3 (pc := 23) dX3_readPerson_23 ?_
    refine s_icmp_gt (pc := 24) 74 dX3_readPerson_24 rfl (by omega) (by omega) (fun h24 => ?_) (fun h24 => ?_)
    · refine s_aload_0 (pc := 74) dX3_readPerson_74 ?_
      refine s_dup (pc := 75) dX3_readPerson_75 rfl ?_
      refine gfX3_37 (pc := 76) dX3_readPerson_76 rfl ?_
      try simp (decide := true) only [wr_s, wr_n, wa_s, wa_n, mg_i, mg_o, if_true, eq_self, reduceIte]
      try rw [f102]
      try rw [e3]
      refine s_iconst_1 (pc := 79) dX3_readPerson_79 ?_
      refine s_iadd (pc := 80) dX3_readPerson_80 ?_
      refine pfX3_37 (pc := 81) dX3_readPerson_81 rfl ?_
      refine s_iconst_1 (pc := 84) dX3_readPerson_84 ?_
      refine s_zreturn (pc := 85) dX3_readPerson_85 rfl (by omega) ?_
      cases (show k = 4 by omega)
      refine Or.inr (Or.inl ⟨by omega, f4_all hv, rfl, (hF.mono (E := [104, 102, 14]) (by decide)).wr (by decide), ?_, ?_, fun j => ?_⟩)
      · simp (decide := true) only [wr_s, wr_n, wa_s, wa_n, mg_i, mg_o, if_true, eq_self, reduceIte]; omega
      · simp (decide := true) only [wr_s, wr_n, wa_s, wa_n, mg_i, mg_o, if_true, eq_self, reduceIte]
      · simp (decide := true) only [wr_s, wr_n, wa_s, wa_n, mg_i, mg_o, if_true, eq_self, reduceIte]
        rw [hw]; rfl
    · refine s_aload_0 (pc := 27) dX3_readPerson_27 ?_
      refine s_bipush (pc := 28) (z := 9) dX3_readPerson_28 rfl ?_
      refine cV1i (pc := 30) (Ky := kX3_isFigure) dX3_readPerson_30 rfl lnX3_67 okX3_isFigure ⟨3, TX3, 9, rfl, rfl⟩ ⟨Nat.le_of_ble_eq_true rfl, Nat.le_of_ble_eq_true rfl⟩ (Nat.le_of_ble_eq_true rfl) (c_X3_isFigure f13 f100 e3 hn (by omega) ht (by omega)) ?_
      rintro _ _ ⟨rfl, rfl⟩
      refine s_if_ne (pc := 33) 38 dX3_readPerson_33 rfl (by omega) (fun h33 => ?_) (fun h33 => ?_)
      · have hfg : fg tx n (a + 1 + k) 9 := Decidable.byContradiction fun q => by rw [if_neg q] at h33; exact h33 rfl
        refine s_aload_0 (pc := 38) dX3_readPerson_38 ?_
        refine gfX3_19 (pc := 39) dX3_readPerson_39 rfl ?_
        refine s_iconst_4 (pc := 42) dX3_readPerson_42 ?_
        refine s_aload_0 (pc := 43) dX3_readPerson_43 ?_
        refine gfX3_37 (pc := 44) dX3_readPerson_44 rfl ?_
        try simp (decide := true) only [wr_s, wr_n, wa_s, wa_n, mg_i, mg_o, if_true, eq_self, reduceIte]
        try rw [f102]
        try rw [e3]
        refine s_imul (pc := 47) dX3_readPerson_47 ?_
        refine s_iload_1 (pc := 48) dX3_readPerson_48 ?_
        refine s_iadd (pc := 49) dX3_readPerson_49 ?_
        refine s_aload_0 (pc := 50) dX3_readPerson_50 ?_
        refine cV0i (pc := 51) (Ky := kX3_sign) dX3_readPerson_51 rfl lnX3_53 okX3_sign ⟨3, TX3, 9, rfl, rfl⟩ ⟨Nat.le_of_ble_eq_true rfl, Nat.le_of_ble_eq_true rfl⟩ (Nat.le_of_ble_eq_true rfl) (c_X3_sign f13 f100 e3 hn (by omega)) ?_
        rintro _ _ ⟨rfl, rfl⟩
        refine s_bipush (pc := 54) (z := 48) dX3_readPerson_54 rfl ?_
        refine s_isub (pc := 56) dX3_readPerson_56 ?_
        refine z_iastore (pc := 57) dX3_readPerson_57 ly_14 ip_14 (by omega) (by omega) ?_
        refine s_aload_0 (pc := 58) dX3_readPerson_58 ?_
        refine s_dup (pc := 59) dX3_readPerson_59 rfl ?_
        refine gfX3_47 (pc := 60) dX3_readPerson_60 rfl ?_
        try simp (decide := true) only [wr_s, wr_n, wa_s, wa_n, mg_i, mg_o, if_true, eq_self, reduceIte]
        try rw [f102]
        try rw [e3]
        refine s_iconst_1 (pc := 63) dX3_readPerson_63 ?_
        refine s_iadd (pc := 64) dX3_readPerson_64 ?_
        refine pfX3_47 (pc := 65) dX3_readPerson_65 rfl ?_
        refine s_iinc_1 (pc := 68) dX3_readPerson_68 (Nat.le_of_ble_eq_true rfl) rfl ?_
        refine s_goto (pc := 71) 22 dX3_readPerson_71 rfl ?_
        refine s_le ?_ (ih (k + 1) _ (by omega) (by omega) ?_ ?_ ?_ ?_ (by omega))
        · exact ⟨Or.inr rfl, Or.inr rfl, trivial⟩
        · exact (hF.wr (by decide)).wr (by decide)
        · simp (decide := true) only [wr_s, wr_n, wa_s, wa_n, mg_i, mg_o, if_true, eq_self, reduceIte]; omega
        · intro j j0 j1
          by_cases hj : j = k
          · rw [hj]; exact hfg
          · exact hv j j0 (by omega)
        · intro j
          simp (decide := true) only [wr_s, wr_n, wa_s, wa_n, mg_i, mg_o, if_true, eq_self, reduceIte]
          by_cases hj : j = 4 * pe + k
          · rw [if_pos hj, if_pos (by omega), show a + 1 + (j - 4 * pe) = a + 1 + k by omega]
          · rw [if_neg hj, hw]
            by_cases hj2 : 4 * pe ≤ j ∧ j < 4 * pe + k
            · rw [if_pos hj2, if_pos (by omega)]
            · rw [if_neg hj2, if_neg (by omega)]
      · have hnf : ¬ fg tx n (a + 1 + k) 9 := fun q => by rw [if_pos q] at h33; exact absurd h33 (by decide)
        refine s_iconst_0 (pc := 36) dX3_readPerson_36 ?_
        refine s_zreturn (pc := 37) dX3_readPerson_37 rfl (by omega) ?_
        refine Or.inr (Or.inr ⟨by omega, ?_, rfl, hF.mono (E := [104, 102, 14]) (by decide), ?_⟩)
        · rw [f4_lt h0 (by omega) hv hnf]; omega
        · rw [f4_lt h0 (by omega) hv hnf, e3]
theorem c_X3_readPerson {tx : Int → Int} {n a pe : Int} {μ : Mem} (e13 : μ 13 = tx) (e100 : μ 100 0 = n) (e104 : μ 104 0 = a) (e102 : μ 102 0 = pe) (hn : 0 ≤ n ∧ n ≤ 60) (ha : 0 ≤ a ∧ a ≤ 90) (hpe : 0 ≤ pe ∧ pe ≤ 4) (ht : ∀ k : Int, 0 ≤ k → k < n → 0 ≤ tx k ∧ tx k ≤ 255) : Mc kX3_readPerson [.inr (.inr 1)] μ (pI (fun z ν => (pe = 4 ∧ 0 = z ∧ μ = ν) ∨ (pe ≠ 4 ∧ f4 tx n (a + 1) = 4 ∧ 1 = z ∧ Fr [104, 102, 14] μ ν ∧ ν 104 0 = a + 5 ∧ ν 102 0 = pe + 1 ∧ ∀ j, ν 14 j = up4 (μ 14) (4 * pe) tx n (a + 1) j) ∨ (pe ≠ 4 ∧ f4 tx n (a + 1) < 4 ∧ 0 = z ∧ Fr [104, 102, 14] μ ν ∧ ν 104 0 = a + 1 + f4 tx n (a + 1)))) := by
  refine Mc_of (by decide +kernel) (fun _ => Nat.le_of_ble_eq_true rfl) ?_
  show AW kX3_readPerson 0 [some (.inr (.inr 1)), none] [] μ _
  refine s_aload_0 (pc := 0) dX3_readPerson_0 ?_
  refine gfX3_37 (pc := 1) dX3_readPerson_1 rfl ?_
  try rw [e102]
  try rw [e104]
  refine s_iconst_4 (pc := 4) dX3_readPerson_4 ?_
  refine s_icmp_lt (pc := 5) 10 dX3_readPerson_5 rfl (by omega) (by omega) (fun h5 => ?_) (fun h5 => ?_)
  · refine s_aload_0 (pc := 10) dX3_readPerson_10 ?_
    refine s_dup (pc := 11) dX3_readPerson_11 rfl ?_
    refine gfX3_47 (pc := 12) dX3_readPerson_12 rfl ?_
    try rw [e102]
    try rw [e104]
    refine s_iconst_1 (pc := 15) dX3_readPerson_15 ?_
    refine s_iadd (pc := 16) dX3_readPerson_16 ?_
    refine pfX3_47 (pc := 17) dX3_readPerson_17 rfl ?_
    refine s_iconst_0 (pc := 20) dX3_readPerson_20 ?_
    refine s_istore_1 (pc := 21) dX3_readPerson_21 (Nat.le_of_ble_eq_true rfl) rfl ?_
    refine lp_X3_readPerson e13 e100 e102 hn ha (by omega) ht 5 0 _ (by omega) (by omega) ?_ ?_ ?_ ?_ (by omega)
    · exact Fr.rf.wr (by decide)
    · simp (decide := true) only [wr_s, wr_n, wa_s, wa_n, mg_i, mg_o, if_true, eq_self, reduceIte]; omega
    · intro j j0 j1; omega
    · intro j
      rw [if_neg (by omega)]
      simp (decide := true) only [wr_s, wr_n, wa_s, wa_n, mg_i, mg_o, if_true, eq_self, reduceIte]
  · refine s_iconst_0 (pc := 8) dX3_readPerson_8 ?_
    refine s_zreturn (pc := 9) dX3_readPerson_9 rfl (by omega) ?_
    exact Or.inl ⟨by omega, rfl, rfl⟩
theorem c_X3_readTale {tx : Int → Int} {n a ta : Int} {μ : Mem} (e13 : μ 13 = tx) (e100 : μ 100 0 = n) (e104 : μ 104 0 = a) (e103 : μ 103 0 = ta) (hn : 0 ≤ n ∧ n ≤ 60) (ha : 0 ≤ a ∧ a ≤ 90) (hta : 0 ≤ ta ∧ ta ≤ 4) (ht : ∀ k : Int, 0 ≤ k → k < n → 0 ≤ tx k ∧ tx k ≤ 255) : Mc kX3_readTale [.inr (.inr 1)] μ (pI (fun z ν => (ta = 4 ∧ 0 = z ∧ μ = ν) ∨ ((ta ≠ 4 ∧ fg tx n (a + 1) 9) ∧ 1 = z ∧ Fr [104, 103, 15] μ ν ∧ ν 104 0 = a + 2 ∧ ν 103 0 = ta + 1 ∧ ∀ j, ν 15 j = upF (μ 15) ta (hr tx n (a + 1) - 48) j) ∨ ((ta ≠ 4 ∧ ¬ fg tx n (a + 1) 9) ∧ 0 = z ∧ Fr [104, 103, 15] μ ν ∧ ν 104 0 = a + 1))) := by
  refine Mc_of (by decide +kernel) (fun _ => Nat.le_of_ble_eq_true rfl) ?_
  show AW kX3_readTale 0 [some (.inr (.inr 1))] [] μ _
  refine s_aload_0 (pc := 0) dX3_readTale_0 ?_
  refine gfX3_34 (pc := 1) dX3_readTale_1 rfl ?_
  try simp (decide := true) only [wr_s, wr_n, wa_s, wa_n, mg_i, mg_o, if_true, eq_self, reduceIte]
  try rw [e103]
  try rw [e104]
  refine s_iconst_4 (pc := 4) dX3_readTale_4 ?_
  refine s_icmp_lt (pc := 5) 10 dX3_readTale_5 rfl (by omega) (by omega) (fun h5 => ?_) (fun h5 => ?_)
  · refine s_aload_0 (pc := 10) dX3_readTale_10 ?_
    refine s_dup (pc := 11) dX3_readTale_11 rfl ?_
    refine gfX3_47 (pc := 12) dX3_readTale_12 rfl ?_
    try simp (decide := true) only [wr_s, wr_n, wa_s, wa_n, mg_i, mg_o, if_true, eq_self, reduceIte]
    try rw [e103]
    try rw [e104]
    refine s_iconst_1 (pc := 15) dX3_readTale_15 ?_
    refine s_iadd (pc := 16) dX3_readTale_16 ?_
    refine pfX3_47 (pc := 17) dX3_readTale_17 rfl ?_
    refine s_aload_0 (pc := 20) dX3_readTale_20 ?_
    refine s_bipush (pc := 21) (z := 9) dX3_readTale_21 rfl ?_
    refine cV1i (pc := 23) (Ky := kX3_isFigure) dX3_readTale_23 rfl lnX3_67 okX3_isFigure ⟨3, TX3, 9, rfl, rfl⟩ ⟨Nat.le_of_ble_eq_true rfl, Nat.le_of_ble_eq_true rfl⟩ (Nat.le_of_ble_eq_true rfl) (c_X3_isFigure (tx := tx) (n := n) (a := a + 1) (by rw [wr_nc (by decide)]; exact e13) (by rw [wr_n (by decide)]; exact e100) (by rw [wr_s, if_pos rfl]) hn (by omega) ht (by omega)) ?_
    rintro _ _ ⟨rfl, rfl⟩
    refine s_if_ne (pc := 26) 31 dX3_readTale_26 rfl (by omega) (fun h26 => ?_) (fun h26 => ?_)
    · have hfg : fg tx n (a + 1) 9 := Decidable.byContradiction fun q => by rw [if_neg q] at h26; exact h26 rfl
      refine s_aload_0 (pc := 31) dX3_readTale_31 ?_
      refine gfX3_22 (pc := 32) dX3_readTale_32 rfl ?_
      refine s_aload_0 (pc := 35) dX3_readTale_35 ?_
      refine gfX3_34 (pc := 36) dX3_readTale_36 rfl ?_
      try simp (decide := true) only [wr_s, wr_n, wa_s, wa_n, mg_i, mg_o, if_true, eq_self, reduceIte]
      try rw [e103]
      try rw [e104]
      refine s_aload_0 (pc := 39) dX3_readTale_39 ?_
      refine cV0i (pc := 40) (Ky := kX3_sign) dX3_readTale_40 rfl lnX3_53 okX3_sign ⟨3, TX3, 9, rfl, rfl⟩ ⟨Nat.le_of_ble_eq_true rfl, Nat.le_of_ble_eq_true rfl⟩ (Nat.le_of_ble_eq_true rfl) (c_X3_sign (tx := tx) (n := n) (a := a + 1) (by rw [wr_nc (by decide)]; exact e13) (by rw [wr_n (by decide)]; exact e100) (by rw [wr_s, if_pos rfl]) hn (by omega)) ?_
      rintro _ _ ⟨rfl, rfl⟩
      refine s_bipush (pc := 43) (z := 48) dX3_readTale_43 rfl ?_
      refine s_isub (pc := 45) dX3_readTale_45 ?_
      refine z_iastore (pc := 46) dX3_readTale_46 ly_15 ip_15 (by omega) (by omega) ?_
      refine s_aload_0 (pc := 47) dX3_readTale_47 ?_
      refine s_dup (pc := 48) dX3_readTale_48 rfl ?_
      refine gfX3_47 (pc := 49) dX3_readTale_49 rfl ?_
      try simp (decide := true) only [wr_s, wr_n, wa_s, wa_n, mg_i, mg_o, if_true, eq_self, reduceIte]
      try rw [e103]
      try rw [e104]
      refine s_iconst_1 (pc := 52) dX3_readTale_52 ?_
      refine s_iadd (pc := 53) dX3_readTale_53 ?_
      refine pfX3_47 (pc := 54) dX3_readTale_54 rfl ?_
      refine s_aload_0 (pc := 57) dX3_readTale_57 ?_
      refine s_dup (pc := 58) dX3_readTale_58 rfl ?_
      refine gfX3_34 (pc := 59) dX3_readTale_59 rfl ?_
      try simp (decide := true) only [wr_s, wr_n, wa_s, wa_n, mg_i, mg_o, if_true, eq_self, reduceIte]
      try rw [e103]
      try rw [e104]
      refine s_iconst_1 (pc := 62) dX3_readTale_62 ?_
      refine s_iadd (pc := 63) dX3_readTale_63 ?_
      refine pfX3_34 (pc := 64) dX3_readTale_64 rfl ?_
      refine s_iconst_1 (pc := 67) dX3_readTale_67 ?_
      refine s_zreturn (pc := 68) dX3_readTale_68 rfl (by omega) ?_
      refine Or.inr (Or.inl ⟨⟨by omega, hfg⟩, rfl, ((((Fr.rf (F := [104, 103, 15])).wr (by decide)).wr (by decide)).wr (by decide)).wr (by decide), ?_, ?_, fun j => ?_⟩)
      · simp (decide := true) only [wr_s, wr_n, wa_s, wa_n, mg_i, mg_o, if_true, eq_self, reduceIte]; omega
      · simp (decide := true) only [wr_s, wr_n, wa_s, wa_n, mg_i, mg_o, if_true, eq_self, reduceIte]
      · simp (decide := true) only [wr_s, wr_n, wa_s, wa_n, mg_i, mg_o, if_true, eq_self, reduceIte]; rfl
    · have hnf : ¬ fg tx n (a + 1) 9 := fun q => by rw [if_pos q] at h26; exact absurd h26 (by decide)
      refine s_iconst_0 (pc := 29) dX3_readTale_29 ?_
      refine s_zreturn (pc := 30) dX3_readTale_30 rfl (by omega) ?_
      refine Or.inr (Or.inr ⟨⟨by omega, hnf⟩, rfl, Fr.rf.wr (by decide), ?_⟩)
      rw [wr_s, if_pos rfl]
  · refine s_iconst_0 (pc := 8) dX3_readTale_8 ?_
    refine s_zreturn (pc := 9) dX3_readTale_9 rfl (by omega) ?_
    exact Or.inl ⟨by omega, rfl, rfl⟩
theorem c_X3_readRule {tx : Int → Int} {n a w hi : Int} {μ : Mem} (e13 : μ 13 = tx) (e100 : μ 100 0 = n) (e104 : μ 104 0 = a) (hn : 0 ≤ n ∧ n ≤ 60) (ha : 0 ≤ a ∧ a ≤ 90) (ht : ∀ k : Int, 0 ≤ k → k < n → 0 ≤ tx k ∧ tx k ≤ 255) (hw : w = 0 ∧ hi = 2 ∨ w = 1 ∧ hi = 2 ∨ w = 2 ∧ hi = 3) : Mc kX3_readRule [.inr (.inr 1), .inl w, .inl hi] μ (pI (fun z ν => (fg tx n (a + 1) hi ∧ 1 = z ∧ Fr [104, 16] μ ν ∧ ν 104 0 = a + 2 ∧ ∀ j, ν 16 j = upF (μ 16) w (hr tx n (a + 1) - 48) j) ∨ (¬ fg tx n (a + 1) hi ∧ 0 = z ∧ Fr [104, 16] μ ν ∧ ν 104 0 = a + 1))) := by
  refine Mc_of (by decide +kernel) (fun _ => Nat.le_of_ble_eq_true rfl) ?_
  show AW kX3_readRule 0 [some (.inr (.inr 1)), some (.inl w), some (.inl hi)] [] μ _
  refine s_aload_0 (pc := 0) dX3_readRule_0 ?_
  refine s_dup (pc := 1) dX3_readRule_1 rfl ?_
  refine gfX3_47 (pc := 2) dX3_readRule_2 rfl ?_
  try simp (decide := true) only [wr_s, wr_n, wa_s, wa_n, mg_i, mg_o, if_true, eq_self, reduceIte]
  try rw [e104]
  refine s_iconst_1 (pc := 5) dX3_readRule_5 ?_
  refine s_iadd (pc := 6) dX3_readRule_6 ?_
  refine pfX3_47 (pc := 7) dX3_readRule_7 rfl ?_
  refine s_aload_0 (pc := 10) dX3_readRule_10 ?_
  refine s_iload_2 (pc := 11) dX3_readRule_11 ?_
  refine cV1i (pc := 12) (Ky := kX3_isFigure) dX3_readRule_12 rfl lnX3_67 okX3_isFigure ⟨3, TX3, 9, rfl, rfl⟩ ⟨Nat.le_of_ble_eq_true rfl, Nat.le_of_ble_eq_true rfl⟩ (Nat.le_of_ble_eq_true rfl) (c_X3_isFigure (tx := tx) (n := n) (a := a + 1) (hi := hi) (by rw [wr_nc (by decide)]; exact e13) (by rw [wr_n (by decide)]; exact e100) (by rw [wr_s, if_pos rfl]) hn (by omega) ht (by omega)) ?_
  rintro _ _ ⟨rfl, rfl⟩
  refine s_if_ne (pc := 15) 20 dX3_readRule_15 rfl (by omega) (fun h15 => ?_) (fun h15 => ?_)
  · have hfg : fg tx n (a + 1) hi := Decidable.byContradiction fun q => by rw [if_neg q] at h15; exact h15 rfl
    refine s_aload_0 (pc := 20) dX3_readRule_20 ?_
    refine gfX3_25 (pc := 21) dX3_readRule_21 rfl ?_
    refine s_iload_1 (pc := 24) dX3_readRule_24 ?_
    refine s_aload_0 (pc := 25) dX3_readRule_25 ?_
    refine cV0i (pc := 26) (Ky := kX3_sign) dX3_readRule_26 rfl lnX3_53 okX3_sign ⟨3, TX3, 9, rfl, rfl⟩ ⟨Nat.le_of_ble_eq_true rfl, Nat.le_of_ble_eq_true rfl⟩ (Nat.le_of_ble_eq_true rfl) (c_X3_sign (tx := tx) (n := n) (a := a + 1) (by rw [wr_nc (by decide)]; exact e13) (by rw [wr_n (by decide)]; exact e100) (by rw [wr_s, if_pos rfl]) hn (by omega)) ?_
    rintro _ _ ⟨rfl, rfl⟩
    refine s_bipush (pc := 29) (z := 48) dX3_readRule_29 rfl ?_
    refine s_isub (pc := 31) dX3_readRule_31 ?_
    refine z_iastore (pc := 32) dX3_readRule_32 ly_16 ip_16 (by omega) (by omega) ?_
    refine s_aload_0 (pc := 33) dX3_readRule_33 ?_
    refine s_dup (pc := 34) dX3_readRule_34 rfl ?_
    refine gfX3_47 (pc := 35) dX3_readRule_35 rfl ?_
    try simp (decide := true) only [wr_s, wr_n, wa_s, wa_n, mg_i, mg_o, if_true, eq_self, reduceIte]
    try rw [e104]
    refine s_iconst_1 (pc := 38) dX3_readRule_38 ?_
    refine s_iadd (pc := 39) dX3_readRule_39 ?_
    refine pfX3_47 (pc := 40) dX3_readRule_40 rfl ?_
    refine s_iconst_1 (pc := 43) dX3_readRule_43 ?_
    refine s_zreturn (pc := 44) dX3_readRule_44 rfl (by omega) ?_
    refine Or.inl ⟨hfg, rfl, (((Fr.rf (F := [104, 16])).wr (by decide)).wr (by decide)).wr (by decide), ?_, fun j => ?_⟩
    · simp (decide := true) only [wr_s, wr_n, wa_s, wa_n, mg_i, mg_o, if_true, eq_self, reduceIte]; omega
    · simp (decide := true) only [wr_s, wr_n, wa_s, wa_n, mg_i, mg_o, if_true, eq_self, reduceIte]; rfl
  · have hnf : ¬ fg tx n (a + 1) hi := fun q => by rw [if_pos q] at h15; exact absurd h15 (by decide)
    refine s_iconst_0 (pc := 18) dX3_readRule_18 ?_
    refine s_zreturn (pc := 19) dX3_readRule_19 rfl (by omega) ?_
    refine Or.inr ⟨hnf, rfl, Fr.rf.wr (by decide), ?_⟩
    rw [wr_s, if_pos rfl]
theorem c_X3_readPart {tx : Int → Int} {n : Int} {s : PS} {μ : Mem} (e13 : μ 13 = tx) (e100 : μ 100 0 = n) (hn : 0 ≤ n ∧ n ≤ 60) (ht : ∀ k : Int, 0 ≤ k → k < n → 0 ≤ tx k ∧ tx k ≤ 255) (hR : RPc s μ) (hok : PSok n s) : Mc kX3_readPart [.inr (.inr 1)] μ (pI (fun z ν => (∃ t, partF tx n s = .inr t ∧ 1 = z ∧ RPc t ν ∧ Fr [14, 15, 16, 104, 102, 103] μ ν) ∨ (∃ p, partF tx n s = .inl p ∧ 0 = z ∧ ν 104 0 = p ∧ Fr [14, 15, 16, 104, 102, 103] μ ν))) := by
  refine Mc_of (by decide +kernel) (fun _ => Nat.le_of_ble_eq_true rfl) ?_
  show AW kX3_readPart 0 [some (.inr (.inr 1))] [] μ _
  have hR1 := hR
  obtain ⟨e104, e102, e103, q16, q14, q15⟩ := hR1
  obtain ⟨b1, b2, b3, b4, b5, b6, b7, b8⟩ := hok
  have hh := hr_in b1 ht (n := n)
  refine s_aload_0 (pc := 0) dX3_readPart_0 ?_
  refine cV0i (pc := 1) (Ky := kX3_sign) dX3_readPart_1 rfl lnX3_53 okX3_sign ⟨3, TX3, 9, rfl, rfl⟩ ⟨Nat.le_of_ble_eq_true rfl, Nat.le_of_ble_eq_true rfl⟩ (Nat.le_of_ble_eq_true rfl) (c_X3_sign e13 e100 e104 hn (by omega)) ?_
  rintro _ _ ⟨rfl, rfl⟩
  by_cases hq : 108 ≤ hr tx n s.1 ∧ hr tx n s.1 ≤ 116
  · rcases (show hr tx n s.1 = 108 ∨ hr tx n s.1 = 109 ∨ hr tx n s.1 = 110 ∨ hr tx n s.1 = 111 ∨ hr tx n s.1 = 112 ∨ hr tx n s.1 = 113 ∨ hr tx n s.1 = 114 ∨ hr tx n s.1 = 115 ∨ hr tx n s.1 = 116 by omega) with e | e | e | e | e | e | e | e | e
    · refine s_tableIn (pc := 4) (off := 62) 66 dX3_readPart_4 (by omega) (by omega) (by omega) (by rw [e]; rfl) rfl ?_
      refine s_aload_0 (pc := 66) dX3_readPart_66 ?_
      refine s_iconst_0 (pc := 67) dX3_readPart_67 ?_
      refine s_iconst_2 (pc := 68) dX3_readPart_68 ?_
      refine cV2i (pc := 69) (Ky := kX3_readRule) dX3_readPart_69 rfl lnX3_63 okX3_readRule ⟨3, TX3, 9, rfl, rfl⟩ ⟨Nat.le_of_ble_eq_true rfl, Nat.le_of_ble_eq_true rfl⟩ (Nat.le_of_ble_eq_true rfl) (c_X3_readRule (w := 0) (hi := 2) e13 e100 e104 hn (by omega) ht (by omega)) ?_
      intro z1 ν1 hq
      refine s_zreturn (pc := 72) dX3_readPart_72 rfl (by rcases hq with ⟨_, h, _⟩ | ⟨_, h, _⟩ <;> omega) ?_
      exact part_lC (by unfold partF; rw [if_neg (by omega), if_neg (by omega), if_pos (by omega)]) hR hq
    · refine s_tableIn (pc := 4) (off := 69) 73 dX3_readPart_4 (by omega) (by omega) (by omega) (by rw [e]; rfl) rfl ?_
      refine s_aload_0 (pc := 73) dX3_readPart_73 ?_
      refine s_iconst_1 (pc := 74) dX3_readPart_74 ?_
      refine s_iconst_2 (pc := 75) dX3_readPart_75 ?_
      refine cV2i (pc := 76) (Ky := kX3_readRule) dX3_readPart_76 rfl lnX3_63 okX3_readRule ⟨3, TX3, 9, rfl, rfl⟩ ⟨Nat.le_of_ble_eq_true rfl, Nat.le_of_ble_eq_true rfl⟩ (Nat.le_of_ble_eq_true rfl) (c_X3_readRule (w := 1) (hi := 2) e13 e100 e104 hn (by omega) ht (by omega)) ?_
      intro z1 ν1 hq
      refine s_zreturn (pc := 79) dX3_readPart_79 rfl (by rcases hq with ⟨_, h, _⟩ | ⟨_, h, _⟩ <;> omega) ?_
      exact part_lC (by unfold partF; rw [if_neg (by omega), if_neg (by omega), if_neg (by omega), if_pos (by omega)]) hR hq
    · refine s_tableIn (pc := 4) (off := 83) 87 dX3_readPart_4 (by omega) (by omega) (by omega) (by rw [e]; rfl) rfl ?_
      refine s_iconst_0 (pc := 87) dX3_readPart_87 ?_
      refine s_zreturn (pc := 88) dX3_readPart_88 rfl (by omega) ?_
      refine Or.inr ⟨s.1, ?_, rfl, e104, Fr.rf⟩
      unfold partF
      rw [if_neg (by omega), if_neg (by omega), if_neg (by omega), if_neg (by omega), if_neg (by omega)]
    · refine s_tableIn (pc := 4) (off := 76) 80 dX3_readPart_4 (by omega) (by omega) (by omega) (by rw [e]; rfl) rfl ?_
      refine s_aload_0 (pc := 80) dX3_readPart_80 ?_
      refine s_iconst_2 (pc := 81) dX3_readPart_81 ?_
      refine s_iconst_3 (pc := 82) dX3_readPart_82 ?_
      refine cV2i (pc := 83) (Ky := kX3_readRule) dX3_readPart_83 rfl lnX3_63 okX3_readRule ⟨3, TX3, 9, rfl, rfl⟩ ⟨Nat.le_of_ble_eq_true rfl, Nat.le_of_ble_eq_true rfl⟩ (Nat.le_of_ble_eq_true rfl) (c_X3_readRule (w := 2) (hi := 3) e13 e100 e104 hn (by omega) ht (by omega)) ?_
      intro z1 ν1 hq
      refine s_zreturn (pc := 86) dX3_readPart_86 rfl (by rcases hq with ⟨_, h, _⟩ | ⟨_, h, _⟩ <;> omega) ?_
      exact part_lC (by unfold partF; rw [if_neg (by omega), if_neg (by omega), if_neg (by omega), if_neg (by omega), if_pos (by omega)]) hR hq
    · refine s_tableIn (pc := 4) (off := 52) 56 dX3_readPart_4 (by omega) (by omega) (by omega) (by rw [e]; rfl) rfl ?_
      refine s_aload_0 (pc := 56) dX3_readPart_56 ?_
      refine cV0i (pc := 57) (Ky := kX3_readPerson) dX3_readPart_57 rfl lnX3_57 okX3_readPerson ⟨3, TX3, 9, rfl, rfl⟩ ⟨Nat.le_of_ble_eq_true rfl, Nat.le_of_ble_eq_true rfl⟩ (Nat.le_of_ble_eq_true rfl) (c_X3_readPerson e13 e100 e104 e102 hn (by omega) (by omega) ht) ?_
      intro z1 ν1 hq
      refine s_zreturn (pc := 60) dX3_readPart_60 rfl (by rcases hq with ⟨_, h, _⟩ | ⟨_, _, h, _⟩ | ⟨_, _, h, _⟩ <;> omega) ?_
      exact part_pC (by omega) hR hq
    · refine s_tableIn (pc := 4) (off := 83) 87 dX3_readPart_4 (by omega) (by omega) (by omega) (by rw [e]; rfl) rfl ?_
      refine s_iconst_0 (pc := 87) dX3_readPart_87 ?_
      refine s_zreturn (pc := 88) dX3_readPart_88 rfl (by omega) ?_
      refine Or.inr ⟨s.1, ?_, rfl, e104, Fr.rf⟩
      unfold partF
      rw [if_neg (by omega), if_neg (by omega), if_neg (by omega), if_neg (by omega), if_neg (by omega)]
    · refine s_tableIn (pc := 4) (off := 83) 87 dX3_readPart_4 (by omega) (by omega) (by omega) (by rw [e]; rfl) rfl ?_
      refine s_iconst_0 (pc := 87) dX3_readPart_87 ?_
      refine s_zreturn (pc := 88) dX3_readPart_88 rfl (by omega) ?_
      refine Or.inr ⟨s.1, ?_, rfl, e104, Fr.rf⟩
      unfold partF
      rw [if_neg (by omega), if_neg (by omega), if_neg (by omega), if_neg (by omega), if_neg (by omega)]
    · refine s_tableIn (pc := 4) (off := 83) 87 dX3_readPart_4 (by omega) (by omega) (by omega) (by rw [e]; rfl) rfl ?_
      refine s_iconst_0 (pc := 87) dX3_readPart_87 ?_
      refine s_zreturn (pc := 88) dX3_readPart_88 rfl (by omega) ?_
      refine Or.inr ⟨s.1, ?_, rfl, e104, Fr.rf⟩
      unfold partF
      rw [if_neg (by omega), if_neg (by omega), if_neg (by omega), if_neg (by omega), if_neg (by omega)]
    · refine s_tableIn (pc := 4) (off := 57) 61 dX3_readPart_4 (by omega) (by omega) (by omega) (by rw [e]; rfl) rfl ?_
      refine s_aload_0 (pc := 61) dX3_readPart_61 ?_
      refine cV0i (pc := 62) (Ky := kX3_readTale) dX3_readPart_62 rfl lnX3_60 okX3_readTale ⟨3, TX3, 9, rfl, rfl⟩ ⟨Nat.le_of_ble_eq_true rfl, Nat.le_of_ble_eq_true rfl⟩ (Nat.le_of_ble_eq_true rfl) (c_X3_readTale e13 e100 e104 e103 hn (by omega) (by omega) ht) ?_
      intro z1 ν1 hq
      refine s_zreturn (pc := 65) dX3_readPart_65 rfl (by rcases hq with ⟨_, h, _⟩ | ⟨_, h, _⟩ | ⟨_, h, _⟩ <;> omega) ?_
      exact part_tC (by omega) hR hq
  · refine s_tableOut (pc := 4) 87 dX3_readPart_4 (by omega) (by omega) rfl ?_
    refine s_iconst_0 (pc := 87) dX3_readPart_87 ?_
    refine s_zreturn (pc := 88) dX3_readPart_88 rfl (by omega) ?_
    refine Or.inr ⟨s.1, ?_, rfl, e104, Fr.rf⟩
    unfold partF
    rw [if_neg (by omega), if_neg (by omega), if_neg (by omega), if_neg (by omega), if_neg (by omega)]
theorem c_X3_forget {μ : Mem} : Mc kX3_forget [.inr (.inr 1)] μ (pV (fun ν => Fr [16, 102, 103] μ ν ∧ ν 102 0 = 0 ∧ ν 103 0 = 0 ∧ ∀ k : Int, 0 ≤ k → k < 3 → ν 16 k = 0)) := by
  refine Mc_of (by decide +kernel) (fun _ => Nat.le_of_ble_eq_true rfl) ?_
  show AW kX3_forget 0 [some (.inr (.inr 1))] [] μ _
  refine s_aload_0 (pc := 0) dX3_forget_0 ?_
  refine s_iconst_0 (pc := 1) dX3_forget_1 ?_
  refine pfX3_37 (pc := 2) dX3_forget_2 rfl ?_
  refine s_aload_0 (pc := 5) dX3_forget_5 ?_
  refine s_iconst_0 (pc := 6) dX3_forget_6 ?_
  refine pfX3_34 (pc := 7) dX3_forget_7 rfl ?_
  refine s_aload_0 (pc := 10) dX3_forget_10 ?_
  refine gfX3_25 (pc := 11) dX3_forget_11 rfl ?_
  refine s_iconst_0 (pc := 14) dX3_forget_14 ?_
  refine s_iconst_0 (pc := 15) dX3_forget_15 ?_
  refine z_iastore (pc := 16) dX3_forget_16 ly_16 ip_16 (by omega) (by omega) ?_
  refine s_aload_0 (pc := 17) dX3_forget_17 ?_
  refine gfX3_25 (pc := 18) dX3_forget_18 rfl ?_
  refine s_iconst_1 (pc := 21) dX3_forget_21 ?_
  refine s_iconst_0 (pc := 22) dX3_forget_22 ?_
  refine z_iastore (pc := 23) dX3_forget_23 ly_16 ip_16 (by omega) (by omega) ?_
  refine s_aload_0 (pc := 24) dX3_forget_24 ?_
  refine gfX3_25 (pc := 25) dX3_forget_25 rfl ?_
  refine s_iconst_2 (pc := 28) dX3_forget_28 ?_
  refine s_iconst_0 (pc := 29) dX3_forget_29 ?_
  refine z_iastore (pc := 30) dX3_forget_30 ly_16 ip_16 (by omega) (by omega) ?_
  refine s_return (pc := 31) dX3_forget_31 rfl ?_
  refine ⟨((((Fr.rf.wr (by decide)).wr (by decide)).wr (by decide)).wr (by decide)).wr (by decide), ?_, ?_, fun k k0 k1 => ?_⟩
  · simp (decide := true) only [wr_s, wr_n, wa_s, wa_n, mg_i, mg_o, if_true, eq_self, reduceIte]
  · simp (decide := true) only [wr_s, wr_n, wa_s, wa_n, mg_i, mg_o, if_true, eq_self, reduceIte]
  · simp (decide := true) only [wr_s, wr_n, wa_s, wa_n, mg_i, mg_o, if_true, eq_self, reduceIte]
    rcases (show k = 0 ∨ k = 1 ∨ k = 2 by omega) with rfl | rfl | rfl <;> simp (decide := true)
theorem lp_X3_readParts {tx : Int → Int} {n : Int} {μ : Mem} (e13 : μ 13 = tx) (e100 : μ 100 0 = n) (hn : 0 ≤ n ∧ n ≤ 60) (ht : ∀ k : Int, 0 ≤ k → k < n → 0 ≤ tx k ∧ tx k ≤ 255) : ∀ (f : Nat) (i : Int) (s : PS) (ν : Mem), (0 ≤ i) → (i ≤ 60) → (Fr [14, 15, 16, 104, 102, 103] μ ν) → (RPc s ν) → (PSok n s) → (partsF tx n (60 - i).toNat s = resF tx n) → 60 - i < (f : Int) → AW kX3_readParts 16 [some (.inr (.inr 1)), some (.inl i)] [] ν (pI (fun z ν => (∃ t, resF tx n = .inr t ∧ 1 = z ∧ RPc t ν ∧ Fr [14, 15, 16, 104, 102, 103] μ ν) ∨ (∃ p, resF tx n = .inl p ∧ 0 = z ∧ ν 104 0 = p ∧ Fr [14, 15, 16, 104, 102, 103] μ ν))) := by
  intro f
  induction f with
  | zero =>
    intro i s ν h0 h1 hF hR hok he hm
    exfalso; omega
  | succ f ih =>
    intro i s ν h0 h1 hF hR hok he hm
    have f13 : ν 13 = tx := (hF.fn 13 rfl).trans e13
    have f100 : ν 100 0 = n := (hF.at 100 rfl 0).trans e100
    refine s_iload_1 (pc := 16) dX3_readParts_16 ?_
    refine s_bipush (pc := 17) (z := 60) dX3_readParts_17 rfl ?_
    refine s_icmp_ge (pc := 19) 71 dX3_readParts_19 rfl (by omega) (by omega) (fun h19 => ?_) (fun h19 => ?_)
    · refine s_iconst_0 (pc := 71) dX3_readParts_71 ?_
      refine s_zreturn (pc := 72) dX3_readParts_72 rfl (by omega) ?_
      cases (show i = 60 by omega)
      exact Or.inr ⟨s.1, by rw [← he]; rfl, rfl, hR.1, hF⟩
    · refine s_aload_0 (pc := 22) dX3_readParts_22 ?_
      refine cV0i (pc := 23) (Ky := kX3_readPart) dX3_readParts_23 rfl lnX3_50 okX3_readPart ⟨3, TX3, 9, rfl, rfl⟩ ⟨Nat.le_of_ble_eq_true rfl, Nat.le_of_ble_eq_true rfl⟩ (Nat.le_of_ble_eq_true rfl) (c_X3_readPart f13 f100 hn ht hR hok) ?_
      rintro _ ν23 (⟨t, hp23, rfl, hR23, hG23⟩ | ⟨p, hp23, rfl, ha23, hG23⟩)
      · have g13 : ν23 13 = tx := (hG23.fn 13 rfl).trans f13
        have g100 : ν23 100 0 = n := (hG23.at 100 rfl 0).trans f100
        have hpo := partF_ok hok hp23
        have hht := hr_in (tx := tx) (n := n) (a := t.1) (by have := hpo.1.1; omega) ht
        have hb0 := hpo.1.1
        have hb1 := hpo.1.2.1
        have hst := parts_st hp23 (g := (60 - i).toNat) (by omega)
        refine s_if_ne (pc := 26) 31 dX3_readParts_26 rfl (by omega) (fun h26 => ?_) (fun h26 => ?_)
        · refine s_aload_0 (pc := 31) dX3_readParts_31 ?_
          refine gfX3_47 (pc := 32) dX3_readParts_32 rfl ?_
          try rw [hR23.1]
          try rw [g100]
          refine s_aload_0 (pc := 35) dX3_readParts_35 ?_
          refine gfX3_28 (pc := 36) dX3_readParts_36 rfl ?_
          try rw [hR23.1]
          try rw [g100]
          refine s_icmp_ne (pc := 39) 44 dX3_readParts_39 rfl (by omega) (by omega) (fun h39 => ?_) (fun h39 => ?_)
          · refine s_aload_0 (pc := 44) dX3_readParts_44 ?_
            refine cV0i (pc := 45) (Ky := kX3_sign) dX3_readParts_45 rfl lnX3_53 okX3_sign ⟨3, TX3, 9, rfl, rfl⟩ ⟨Nat.le_of_ble_eq_true rfl, Nat.le_of_ble_eq_true rfl⟩ (Nat.le_of_ble_eq_true rfl) (c_X3_sign (a := t.1) g13 g100 hR23.1 hn (by omega)) ?_
            rintro _ _ ⟨rfl, rfl⟩
            refine s_bipush (pc := 48) (z := 59) dX3_readParts_48 rfl ?_
            refine s_icmp_eq (pc := 50) 55 dX3_readParts_50 rfl (by omega) (by omega) (fun h50 => ?_) (fun h50 => ?_)
            · refine s_aload_0 (pc := 55) dX3_readParts_55 ?_
              refine s_dup (pc := 56) dX3_readParts_56 rfl ?_
              refine gfX3_47 (pc := 57) dX3_readParts_57 rfl ?_
              try rw [hR23.1]
              try rw [g100]
              refine s_iconst_1 (pc := 60) dX3_readParts_60 ?_
              refine s_iadd (pc := 61) dX3_readParts_61 ?_
              refine pfX3_47 (pc := 62) dX3_readParts_62 rfl ?_
              refine s_iinc_1 (pc := 65) dX3_readParts_65 (Nat.le_of_ble_eq_true rfl) rfl ?_
              refine s_goto (pc := 68) 16 dX3_readParts_68 rfl ?_
              refine ih (i + 1) (t.1 + 1, t.2) _ (by omega) (by omega) ((hF.tr hG23).wr (by decide)) ?_ ⟨by dsimp only; omega, by dsimp only; omega, hpo.1.2.2⟩ ?_ (by omega)
              · obtain ⟨a1, a2, a3, a4, a5, a6⟩ := hR23
                refine ⟨?_, ?_, ?_, ?_, ?_, ?_⟩
                · rw [wr_s, if_pos rfl]
                · rw [wr_n (by decide)]; exact a2
                · rw [wr_n (by decide)]; exact a3
                · intro k k0 k1; rw [wr_n (by decide)]; exact a4 k k0 k1
                · intro k k0 k1; rw [wr_n (by decide)]; exact a5 k k0 k1
                · intro k k0 k1; rw [wr_n (by decide)]; exact a6 k k0 k1
              · rw [← he, hst, if_neg (by omega), if_pos (by omega), show (60 - (i + 1)).toNat = (60 - i).toNat - 1 by omega]
            · refine s_iconst_0 (pc := 53) dX3_readParts_53 ?_
              refine s_zreturn (pc := 54) dX3_readParts_54 rfl (by omega) ?_
              exact Or.inr ⟨t.1, by rw [← he, hst, if_neg (by omega), if_neg (by omega)], rfl, hR23.1, hF.tr hG23⟩
          · refine s_iconst_1 (pc := 42) dX3_readParts_42 ?_
            refine s_zreturn (pc := 43) dX3_readParts_43 rfl (by omega) ?_
            exact Or.inl ⟨t, by rw [← he, hst, if_pos (by omega)], rfl, hR23, hF.tr hG23⟩
        · exact absurd h26 (by decide)
      · have hin := parts_in hp23 (g := (60 - i).toNat) (by omega)
        refine s_if_ne (pc := 26) 31 dX3_readParts_26 rfl (by omega) (fun h26 => ?_) (fun h26 => ?_)
        · exact absurd h26 (by decide)
        · refine s_iconst_0 (pc := 29) dX3_readParts_29 ?_
          refine s_zreturn (pc := 30) dX3_readParts_30 rfl (by omega) ?_
          exact Or.inr ⟨p, by rw [← he, hin], rfl, ha23, hF.tr hG23⟩
theorem c_X3_readParts {tx : Int → Int} {n : Int} {μ : Mem} (e13 : μ 13 = tx) (e100 : μ 100 0 = n) (hn : 0 ≤ n ∧ n ≤ 60) (ht : ∀ k : Int, 0 ≤ k → k < n → 0 ≤ tx k ∧ tx k ≤ 255) (h102 : μ 102 0 = 0) (h103 : μ 103 0 = 0) (h16 : ∀ k : Int, 0 ≤ k → k < 3 → μ 16 k = 0) : Mc kX3_readParts [.inr (.inr 1)] μ (pI (fun z ν => (∃ t, resF tx n = .inr t ∧ 1 = z ∧ RPc t ν ∧ Fr [14, 15, 16, 104, 102, 103] μ ν) ∨ (∃ p, resF tx n = .inl p ∧ 0 = z ∧ ν 104 0 = p ∧ Fr [14, 15, 16, 104, 102, 103] μ ν))) := by
  refine Mc_of (by decide +kernel) (fun _ => Nat.le_of_ble_eq_true rfl) ?_
  show AW kX3_readParts 0 [some (.inr (.inr 1)), none] [] μ _
  have hRP : RPc s0 (wr μ 104 0 0) := by
    refine ⟨by rw [wr_s, if_pos rfl]; rfl, by rw [wr_n (by decide)]; exact h102, by rw [wr_n (by decide)]; exact h103, fun k k0 k1 => by rw [wr_n (by decide)]; exact h16 k k0 k1, fun k k0 k1 => ?_, fun k k0 k1 => ?_⟩
    · dsimp only [s0] at k1; omega
    · dsimp only [s0] at k1; omega
  refine s_aload_0 (pc := 0) dX3_readParts_0 ?_
  refine s_iconst_0 (pc := 1) dX3_readParts_1 ?_
  refine pfX3_47 (pc := 2) dX3_readParts_2 rfl ?_
  refine s_aload_0 (pc := 5) dX3_readParts_5 ?_
  refine gfX3_28 (pc := 6) dX3_readParts_6 rfl ?_
  try simp (decide := true) only [wr_s, wr_n, wa_s, wa_n, mg_i, mg_o, if_true, eq_self, reduceIte]
  try rw [e100]
  refine s_if_ne (pc := 9) 14 dX3_readParts_9 rfl (by omega) (fun h9 => ?_) (fun h9 => ?_)
  · refine s_iconst_0 (pc := 14) dX3_readParts_14 ?_
    refine s_istore_1 (pc := 15) dX3_readParts_15 (Nat.le_of_ble_eq_true rfl) rfl ?_
    exact lp_X3_readParts e13 e100 hn ht 61 0 s0 _ (by omega) (by omega) (Fr.rf.wr (by decide)) hRP (s0_ok hn.1) (by unfold resF; rw [if_neg (by omega)]; rfl) (by omega)
  · refine s_iconst_1 (pc := 12) dX3_readParts_12 ?_
    refine s_zreturn (pc := 13) dX3_readParts_13 rfl (by omega) ?_
    exact Or.inl ⟨s0, by unfold resF; rw [if_pos (by omega)], rfl, hRP, Fr.rf.wr (by decide)⟩
theorem RQ_of {tx : Int → Int} {n : Int} {ν ρ : Mem} (h : RMc tx n ν) (h102 : ρ 102 0 = ν 102 0) (h103 : ρ 103 0 = ν 103 0) (h14 : ρ 14 = ν 14) (h15 : ρ 15 = ν 15) (h16 : ∀ k : Int, 0 ≤ k → k < 3 → ρ 16 k = if k = 2 ∧ pPe tx n ≤ pLa tx n 2 then 0 else ν 16 k) : RQ tx n ρ := by
  obtain ⟨a1, a2, a3, a4, a5⟩ := h
  refine ⟨h102.trans a1, h103.trans a2, fun k k0 k1 => by rw [h14]; exact a4 k k0 k1, fun k k0 k1 => by rw [h15]; exact a5 k k0 k1, fun k k0 k1 => ?_⟩
  rw [h16 k k0 k1, a3 k k0 k1]
  rfl
theorem c_X3_interpret {tx : Int → Int} {n : Int} {μ : Mem} (e13 : μ 13 = tx) (e100 : μ 100 0 = n) (hn : 0 ≤ n ∧ n ≤ 60) (ht : ∀ k : Int, 0 ≤ k → k < n → 0 ≤ tx k ∧ tx k ≤ 255) : Mc kX3_interpret [.inr (.inr 1)] μ (pV (fun ν => RQ tx n ν ∧ ν 101 0 = pFa tx n ∧ Fr [14, 15, 16, 101, 102, 103, 104] μ ν)) := by
  refine Mc_of (by decide +kernel) (fun _ => Nat.le_of_ble_eq_true rfl) ?_
  show AW kX3_interpret 0 [some (.inr (.inr 1))] [] μ _
  have hpe := pPe_in (tx := tx) hn.1
  have hla := pLa_in (tx := tx) hn.1
  refine s_aload_0 (pc := 0) dX3_interpret_0 ?_
  refine cV0v (pc := 1) (Ky := kX3_forget) dX3_interpret_1 rfl lnX3_40 okX3_forget ⟨3, TX3, 9, rfl, rfl⟩ ⟨Nat.le_of_ble_eq_true rfl, Nat.le_of_ble_eq_true rfl⟩ (Nat.le_of_ble_eq_true rfl) (c_X3_forget) ?_
  rintro ν1 ⟨hF1, ha1, hb1, hc1⟩
  refine s_aload_0 (pc := 4) dX3_interpret_4 ?_
  refine s_iconst_m1 (pc := 5) dX3_interpret_5 ?_
  refine pfX3_15 (pc := 6) dX3_interpret_6 rfl ?_
  refine s_aload_0 (pc := 9) dX3_interpret_9 ?_
  refine cV0i (pc := 10) (Ky := kX3_readParts) dX3_interpret_10 rfl lnX3_43 okX3_readParts ⟨3, TX3, 9, rfl, rfl⟩ ⟨Nat.le_of_ble_eq_true rfl, Nat.le_of_ble_eq_true rfl⟩ (Nat.le_of_ble_eq_true rfl) (c_X3_readParts (tx := tx) (n := n) (by rw [wr_nc (by decide), hF1.fn 13 rfl]; exact e13) (by rw [wr_n (by decide), hF1.at 100 rfl 0]; exact e100) hn ht (by rw [wr_n (by decide)]; exact ha1) (by rw [wr_n (by decide)]; exact hb1) (fun k k0 k1 => by rw [wr_n (by decide)]; exact hc1 k k0 k1)) ?_
  rintro _ ν10 (⟨t, hp10, rfl, hR10, hG10⟩ | ⟨p, hp10, rfl, ha10, hG10⟩)
  · have hE := RM_ofC (tx := tx) (n := n) (t := t) (ν := ν10) hp10 hR10
    have hfa : ν10 101 0 = pFa tx n := by rw [hE.1, hG10.at 101 rfl 0, wr_s, if_pos rfl]
    have hFF : Fr [14, 15, 16, 101, 102, 103, 104] μ ν10 := ((hF1.mono (by decide)).wr (by decide)).tr (hG10.mono (by decide))
    have c16 : ν10 16 2 = pLa tx n 2 := hE.2.2.2.1 2 (by omega) (by omega)
    have c102 : ν10 102 0 = pPe tx n := hE.2.1
    refine s_if_ne (pc := 13) 28 dX3_interpret_13 rfl (by omega) (fun h13 => ?_) (fun h13 => ?_)
    · refine s_aload_0 (pc := 28) dX3_interpret_28 ?_
      refine gfX3_25 (pc := 29) dX3_interpret_29 rfl ?_
      refine s_iconst_2 (pc := 32) dX3_interpret_32 ?_
      refine z_iaload (pc := 33) dX3_interpret_33 ly_16 (by omega) (by omega) ?_
      try simp (decide := true) only [wr_s, wr_n, wa_s, wa_n, mg_i, mg_o, if_true, eq_self, reduceIte]
      try rw [c16]
      try rw [c102]
      try rw [d16]
      try rw [d102]
      refine s_aload_0 (pc := 34) dX3_interpret_34 ?_
      refine gfX3_37 (pc := 35) dX3_interpret_35 rfl ?_
      try simp (decide := true) only [wr_s, wr_n, wa_s, wa_n, mg_i, mg_o, if_true, eq_self, reduceIte]
      try rw [c16]
      try rw [c102]
      try rw [d16]
      try rw [d102]
      refine s_icmp_lt (pc := 38) 48 dX3_interpret_38 rfl (by omega) (by omega) (fun h38 => ?_) (fun h38 => ?_)
      · refine s_return (pc := 48) dX3_interpret_48 rfl ?_
        first
          | (refine ⟨RQ_of hE.2 rfl rfl rfl rfl (fun k k0 k1 => ?_), hfa, hFF⟩
             rw [if_neg (by omega)]
             done)
          | (refine ⟨RQ_of hE.2 (wr_n (by decide)) (wr_n (by decide)) (wr_nc (by decide)) (wr_nc (by decide)) (fun k k0 k1 => ?_), by rw [wr_n (by decide)]; exact hfa, hFF.wr (by decide)⟩
             rw [wr_s]
             by_cases hk : k = 2
             · rw [if_pos hk, if_pos (by omega)]
             · rw [if_neg hk, if_neg (by omega)])
      · refine s_aload_0 (pc := 41) dX3_interpret_41 ?_
        refine gfX3_25 (pc := 42) dX3_interpret_42 rfl ?_
        refine s_iconst_2 (pc := 45) dX3_interpret_45 ?_
        refine s_iconst_0 (pc := 46) dX3_interpret_46 ?_
        refine z_iastore (pc := 47) dX3_interpret_47 ly_16 ip_16 (by omega) (by omega) ?_
        refine s_return (pc := 48) dX3_interpret_48 rfl ?_
        first
          | (refine ⟨RQ_of hE.2 rfl rfl rfl rfl (fun k k0 k1 => ?_), hfa, hFF⟩
             rw [if_neg (by omega)]
             done)
          | (refine ⟨RQ_of hE.2 (wr_n (by decide)) (wr_n (by decide)) (wr_nc (by decide)) (wr_nc (by decide)) (fun k k0 k1 => ?_), by rw [wr_n (by decide)]; exact hfa, hFF.wr (by decide)⟩
             rw [wr_s]
             by_cases hk : k = 2
             · rw [if_pos hk, if_pos (by omega)]
             · rw [if_neg hk, if_neg (by omega)])
    · exact absurd h13 (by decide)
  · refine s_if_ne (pc := 13) 28 dX3_interpret_13 rfl (by omega) (fun h13 => ?_) (fun h13 => ?_)
    · exact absurd h13 (by decide)
    · refine s_aload_0 (pc := 16) dX3_interpret_16 ?_
      refine s_aload_0 (pc := 17) dX3_interpret_17 ?_
      refine gfX3_47 (pc := 18) dX3_interpret_18 rfl ?_
      try simp (decide := true) only [wr_s, wr_n, wa_s, wa_n, mg_i, mg_o, if_true, eq_self, reduceIte]
      try rw [c16]
      try rw [c102]
      try rw [d16]
      try rw [d102]
      refine pfX3_15 (pc := 21) dX3_interpret_21 rfl ?_
      refine s_aload_0 (pc := 24) dX3_interpret_24 ?_
      refine cV0v (pc := 25) (Ky := kX3_forget) dX3_interpret_25 rfl lnX3_40 okX3_forget ⟨3, TX3, 9, rfl, rfl⟩ ⟨Nat.le_of_ble_eq_true rfl, Nat.le_of_ble_eq_true rfl⟩ (Nat.le_of_ble_eq_true rfl) (c_X3_forget) ?_
      rintro ν25 ⟨hF25, ha25, hb25, hc25⟩
      have hE := RM_noC (tx := tx) (n := n) (p := p) (ν := ν25) hp10 ha25 hb25 hc25
      have hfa : ν25 101 0 = pFa tx n := by rw [hE.1, hF25.at 101 rfl 0, wr_s, if_pos rfl]; exact ha10
      have hFF : Fr [14, 15, 16, 101, 102, 103, 104] μ ν25 := ((((hF1.mono (by decide)).wr (by decide)).tr (hG10.mono (by decide))).wr (by decide)).tr (hF25.mono (by decide))
      have d16 : ν25 16 2 = pLa tx n 2 := hE.2.2.2.1 2 (by omega) (by omega)
      have d102 : ν25 102 0 = pPe tx n := hE.2.1
      refine s_aload_0 (pc := 28) dX3_interpret_28 ?_
      refine gfX3_25 (pc := 29) dX3_interpret_29 rfl ?_
      refine s_iconst_2 (pc := 32) dX3_interpret_32 ?_
      refine z_iaload (pc := 33) dX3_interpret_33 ly_16 (by omega) (by omega) ?_
      try simp (decide := true) only [wr_s, wr_n, wa_s, wa_n, mg_i, mg_o, if_true, eq_self, reduceIte]
      try rw [c16]
      try rw [c102]
      try rw [d16]
      try rw [d102]
      refine s_aload_0 (pc := 34) dX3_interpret_34 ?_
      refine gfX3_37 (pc := 35) dX3_interpret_35 rfl ?_
      try simp (decide := true) only [wr_s, wr_n, wa_s, wa_n, mg_i, mg_o, if_true, eq_self, reduceIte]
      try rw [c16]
      try rw [c102]
      try rw [d16]
      try rw [d102]
      refine s_icmp_lt (pc := 38) 48 dX3_interpret_38 rfl (by omega) (by omega) (fun h38 => ?_) (fun h38 => ?_)
      · refine s_return (pc := 48) dX3_interpret_48 rfl ?_
        first
          | (refine ⟨RQ_of hE.2 rfl rfl rfl rfl (fun k k0 k1 => ?_), hfa, hFF⟩
             rw [if_neg (by omega)]
             done)
          | (refine ⟨RQ_of hE.2 (wr_n (by decide)) (wr_n (by decide)) (wr_nc (by decide)) (wr_nc (by decide)) (fun k k0 k1 => ?_), by rw [wr_n (by decide)]; exact hfa, hFF.wr (by decide)⟩
             rw [wr_s]
             by_cases hk : k = 2
             · rw [if_pos hk, if_pos (by omega)]
             · rw [if_neg hk, if_neg (by omega)])
      · refine s_aload_0 (pc := 41) dX3_interpret_41 ?_
        refine gfX3_25 (pc := 42) dX3_interpret_42 rfl ?_
        refine s_iconst_2 (pc := 45) dX3_interpret_45 ?_
        refine s_iconst_0 (pc := 46) dX3_interpret_46 ?_
        refine z_iastore (pc := 47) dX3_interpret_47 ly_16 ip_16 (by omega) (by omega) ?_
        refine s_return (pc := 48) dX3_interpret_48 rfl ?_
        first
          | (refine ⟨RQ_of hE.2 rfl rfl rfl rfl (fun k k0 k1 => ?_), hfa, hFF⟩
             rw [if_neg (by omega)]
             done)
          | (refine ⟨RQ_of hE.2 (wr_n (by decide)) (wr_n (by decide)) (wr_nc (by decide)) (wr_nc (by decide)) (fun k k0 k1 => ?_), by rw [wr_n (by decide)]; exact hfa, hFF.wr (by decide)⟩
             rw [wr_s]
             by_cases hk : k = 2
             · rw [if_pos hk, if_pos (by omega)]
             · rw [if_neg hk, if_neg (by omega)])
theorem c_X3_append {tx : Int → Int} {n b : Int} {μ : Mem} (e13 : μ 13 = tx) (e100 : μ 100 0 = n) (hn : 0 ≤ n ∧ n ≤ 60) (ht : ∀ k : Int, 0 ≤ k → k < n → 0 ≤ tx k ∧ tx k ≤ 255) (hb : 0 ≤ b ∧ b ≤ 255) : Mc kX3_append [.inr (.inr 1), .inl b] μ (pI (fun z ν => (n = 60 ∧ 0 = z ∧ μ = ν) ∨ (n < 60 ∧ 1 = z ∧ ν 13 = upF tx n b ∧ ν 100 0 = n + 1 ∧ RQ (upF tx n b) (n + 1) ν ∧ ν 101 0 = pFa (upF tx n b) (n + 1) ∧ Fr [13, 14, 15, 16, 100, 101, 102, 103, 104] μ ν))) := by
  refine Mc_of (by decide +kernel) (fun _ => Nat.le_of_ble_eq_true rfl) ?_
  show AW kX3_append 0 [some (.inr (.inr 1)), some (.inl b)] [] μ _
  refine s_aload_0 (pc := 0) dX3_append_0 ?_
  refine gfX3_28 (pc := 1) dX3_append_1 rfl ?_
  try simp (decide := true) only [wr_s, wr_n, wa_s, wa_n, mg_i, mg_o, if_true, eq_self, reduceIte]
  try rw [e100]
  refine s_bipush (pc := 4) (z := 60) dX3_append_4 rfl ?_
  refine s_icmp_lt (pc := 6) 11 dX3_append_6 rfl (by omega) (by omega) (fun h6 => ?_) (fun h6 => ?_)
  · refine s_aload_0 (pc := 11) dX3_append_11 ?_
    refine gfX3_9 (pc := 12) dX3_append_12 rfl ?_
    refine s_aload_0 (pc := 15) dX3_append_15 ?_
    refine gfX3_28 (pc := 16) dX3_append_16 rfl ?_
    try simp (decide := true) only [wr_s, wr_n, wa_s, wa_n, mg_i, mg_o, if_true, eq_self, reduceIte]
    try rw [e100]
    refine s_iload_1 (pc := 19) dX3_append_19 ?_
    refine z_iastore (pc := 20) dX3_append_20 ly_13 ip_13 (by omega) (by omega) ?_
    refine s_aload_0 (pc := 21) dX3_append_21 ?_
    refine s_dup (pc := 22) dX3_append_22 rfl ?_
    refine gfX3_28 (pc := 23) dX3_append_23 rfl ?_
    try simp (decide := true) only [wr_s, wr_n, wa_s, wa_n, mg_i, mg_o, if_true, eq_self, reduceIte]
    try rw [e100]
    refine s_iconst_1 (pc := 26) dX3_append_26 ?_
    refine s_iadd (pc := 27) dX3_append_27 ?_
    refine pfX3_28 (pc := 28) dX3_append_28 rfl ?_
    refine s_aload_0 (pc := 31) dX3_append_31 ?_
    have e13b : wr (wr μ 13 n b) 100 0 (n + 1) 13 = upF tx n b := by
      rw [wr_nc (by decide)]
      funext k
      rw [wr_s, e13]
      rfl
    have htb : ∀ k : Int, 0 ≤ k → k < n + 1 → 0 ≤ upF tx n b k ∧ upF tx n b k ≤ 255 := fun k k0 k1 => by
      unfold upF
      split
      · exact hb
      · exact ht k k0 (by omega)
    refine cV0v (pc := 32) (Ky := kX3_interpret) dX3_append_32 rfl lnX3_31 okX3_interpret ⟨3, TX3, 9, rfl, rfl⟩ ⟨Nat.le_of_ble_eq_true rfl, Nat.le_of_ble_eq_true rfl⟩ (Nat.le_of_ble_eq_true rfl) (c_X3_interpret e13b (by rw [wr_s, if_pos rfl]) (by omega) htb) ?_
    rintro ν32 ⟨hQ32, hf32, hF32⟩
    refine s_iconst_1 (pc := 35) dX3_append_35 ?_
    refine s_zreturn (pc := 36) dX3_append_36 rfl (by omega) ?_
    first
      | exact Or.inl ⟨by omega, rfl, rfl⟩
      | exact Or.inr ⟨by omega, rfl, by rw [hF32.fn 13 rfl]; exact e13b, by rw [hF32.at 100 rfl 0, wr_s, if_pos rfl], hQ32, hf32, ((Fr.rf.wr (by decide)).wr (by decide)).tr (hF32.mono (by decide))⟩
  · refine s_iconst_0 (pc := 9) dX3_append_9 ?_
    refine s_zreturn (pc := 10) dX3_append_10 rfl (by omega) ?_
    first
      | exact Or.inl ⟨by omega, rfl, rfl⟩
      | exact Or.inr ⟨by omega, rfl, by rw [hF32.fn 13 rfl]; exact e13b, by rw [hF32.at 100 rfl 0, wr_s, if_pos rfl], hQ32, hf32, ((Fr.rf.wr (by decide)).wr (by decide)).tr (hF32.mono (by decide))⟩
theorem c_X3_empty {tx : Int → Int} {μ : Mem} (e13 : μ 13 = tx) : Mc kX3_empty [.inr (.inr 1)] μ (pV (fun ν => ν 100 0 = 0 ∧ RQ tx 0 ν ∧ ν 101 0 = pFa tx 0 ∧ Fr [14, 15, 16, 101, 102, 103, 104, 100] μ ν)) := by
  refine Mc_of (by decide +kernel) (fun _ => Nat.le_of_ble_eq_true rfl) ?_
  show AW kX3_empty 0 [some (.inr (.inr 1))] [] μ _
  refine s_aload_0 (pc := 0) dX3_empty_0 ?_
  refine s_iconst_0 (pc := 1) dX3_empty_1 ?_
  refine pfX3_28 (pc := 2) dX3_empty_2 rfl ?_
  refine s_aload_0 (pc := 5) dX3_empty_5 ?_
  refine cV0v (pc := 6) (Ky := kX3_interpret) dX3_empty_6 rfl lnX3_31 okX3_interpret ⟨3, TX3, 9, rfl, rfl⟩ ⟨Nat.le_of_ble_eq_true rfl, Nat.le_of_ble_eq_true rfl⟩ (Nat.le_of_ble_eq_true rfl) (c_X3_interpret (tx := tx) (n := 0) (by rw [wr_nc (by decide)]; exact e13) (by rw [wr_s, if_pos rfl]) (by omega) (fun k k0 k1 => by omega)) ?_
  rintro ν6 ⟨hQ6, hf6, hF6⟩
  refine s_return (pc := 9) dX3_empty_9 rfl ?_
  exact ⟨by rw [hF6.at 100 rfl 0, wr_s, if_pos rfl], hQ6, hf6, (Fr.rf.wr (by decide)).tr (hF6.mono (by decide))⟩
theorem lp_X3_funnyTogether {tx : Int → Int} {n : Int} {μ : Mem} (hQ : RQ tx n μ) (hn : 0 ≤ n ∧ n ≤ 60) : ∀ (f : Nat) (i : Int), (0 ≤ i) → (i ≤ pTa tx n) → pTa tx n - i < (f : Int) → AW kX3_funnyTogether 4 [some (.inr (.inr 1)), some (.inl (sm (pFu tx n) i.toNat)), some (.inl i)] [] μ (pI (fun z ν => sm (pFu tx n) (pTa tx n).toNat = z ∧ μ = ν)) := by
  intro f
  induction f with
  | zero =>
    intro i h0 h1 hm
    exfalso; omega
  | succ f ih =>
    intro i h0 h1 hm
    obtain ⟨hq1, hq2, hq3, hq4, hq5⟩ := id hQ
    have hpe := pPe_in (tx := tx) hn.1
    have hta := pTa_in (tx := tx) hn.1
    have hsu := sm_succ (f := pFu tx n) h0
    refine s_iload_2 (pc := 4) dX3_funnyTogether_4 ?_
    refine s_aload_0 (pc := 5) dX3_funnyTogether_5 ?_
    refine gfX3_34 (pc := 6) dX3_funnyTogether_6 rfl ?_
    try rw [hq2]
    refine s_icmp_ge (pc := 9) 27 dX3_funnyTogether_9 rfl (by omega) (by omega) (fun h9 => ?_) (fun h9 => ?_)
    · refine s_iload_1 (pc := 27) dX3_funnyTogether_27 ?_
      refine s_ireturn (pc := 28) dX3_funnyTogether_28 rfl ?_
      cases (show i = pTa tx n by omega)
      exact ⟨rfl, rfl⟩
    · refine s_iload_1 (pc := 12) dX3_funnyTogether_12 ?_
      refine s_aload_0 (pc := 13) dX3_funnyTogether_13 ?_
      refine gfX3_22 (pc := 14) dX3_funnyTogether_14 rfl ?_
      refine s_iload_2 (pc := 17) dX3_funnyTogether_17 ?_
      refine z_iaload (pc := 18) dX3_funnyTogether_18 ly_15 (by omega) (by omega) ?_
      try rw [hq2]
      rw [hq4 i h0 (by omega)]
      refine s_iadd (pc := 19) dX3_funnyTogether_19 ?_
      refine s_istore_1 (pc := 20) dX3_funnyTogether_20 (Nat.le_of_ble_eq_true rfl) rfl ?_
      refine s_iinc_2 (pc := 21) dX3_funnyTogether_21 (Nat.le_of_ble_eq_true rfl) rfl ?_
      refine s_goto (pc := 24) 4 dX3_funnyTogether_24 rfl ?_
      refine s_le ?_ (ih (i + 1) (by omega) (by omega) (by omega))
      rw [hsu]
      exact ⟨Or.inr rfl, Or.inr rfl, Or.inr rfl, trivial⟩
theorem c_X3_funnyTogether {tx : Int → Int} {n : Int} {μ : Mem} (hQ : RQ tx n μ) (hn : 0 ≤ n ∧ n ≤ 60) : Mc kX3_funnyTogether [.inr (.inr 1)] μ (pI (fun z ν => sm (pFu tx n) (pTa tx n).toNat = z ∧ μ = ν)) := by
  refine Mc_of (by decide +kernel) (fun _ => Nat.le_of_ble_eq_true rfl) ?_
  show AW kX3_funnyTogether 0 [some (.inr (.inr 1)), none, none] [] μ _
  refine s_iconst_0 (pc := 0) dX3_funnyTogether_0 ?_
  refine s_istore_1 (pc := 1) dX3_funnyTogether_1 (Nat.le_of_ble_eq_true rfl) rfl ?_
  refine s_iconst_0 (pc := 2) dX3_funnyTogether_2 ?_
  refine s_istore_2 (pc := 3) dX3_funnyTogether_3 (Nat.le_of_ble_eq_true rfl) rfl ?_
  have hpe := pPe_in (tx := tx) hn.1
  have hta := pTa_in (tx := tx) hn.1
  exact lp_X3_funnyTogether hQ hn 5 0 (by omega) (by omega) (by omega)
theorem lp_X3_worthTogether {tx : Int → Int} {n : Int} {μ : Mem} (hQ : RQ tx n μ) (hn : 0 ≤ n ∧ n ≤ 60) : ∀ (f : Nat) (i : Int), (0 ≤ i) → (i ≤ pPe tx n) → pPe tx n - i < (f : Int) → AW kX3_worthTogether 4 [some (.inr (.inr 1)), some (.inl (sm (fun p => pPr tx n (4 * p + 3)) i.toNat)), some (.inl i)] [] μ (pI (fun z ν => sm (fun p => pPr tx n (4 * p + 3)) (pPe tx n).toNat = z ∧ μ = ν)) := by
  intro f
  induction f with
  | zero =>
    intro i h0 h1 hm
    exfalso; omega
  | succ f ih =>
    intro i h0 h1 hm
    obtain ⟨hq1, hq2, hq3, hq4, hq5⟩ := id hQ
    have hpe := pPe_in (tx := tx) hn.1
    have hta := pTa_in (tx := tx) hn.1
    have hsu := sm_succ (f := fun p => pPr tx n (4 * p + 3)) h0
    refine s_iload_2 (pc := 4) dX3_worthTogether_4 ?_
    refine s_aload_0 (pc := 5) dX3_worthTogether_5 ?_
    refine gfX3_37 (pc := 6) dX3_worthTogether_6 rfl ?_
    try rw [hq1]
    refine s_icmp_ge (pc := 9) 31 dX3_worthTogether_9 rfl (by omega) (by omega) (fun h9 => ?_) (fun h9 => ?_)
    · refine s_iload_1 (pc := 31) dX3_worthTogether_31 ?_
      refine s_ireturn (pc := 32) dX3_worthTogether_32 rfl ?_
      cases (show i = pPe tx n by omega)
      exact ⟨rfl, rfl⟩
    · refine s_iload_1 (pc := 12) dX3_worthTogether_12 ?_
      refine s_aload_0 (pc := 13) dX3_worthTogether_13 ?_
      refine gfX3_19 (pc := 14) dX3_worthTogether_14 rfl ?_
      refine s_iconst_4 (pc := 17) dX3_worthTogether_17 ?_
      refine s_iload_2 (pc := 18) dX3_worthTogether_18 ?_
      refine s_imul (pc := 19) dX3_worthTogether_19 ?_
      refine s_iconst_3 (pc := 20) dX3_worthTogether_20 ?_
      refine s_iadd (pc := 21) dX3_worthTogether_21 ?_
      refine z_iaload (pc := 22) dX3_worthTogether_22 ly_14 (by omega) (by omega) ?_
      try rw [hq1]
      rw [hq3 (4 * i + 3) (by omega) (by omega)]
      refine s_iadd (pc := 23) dX3_worthTogether_23 ?_
      refine s_istore_1 (pc := 24) dX3_worthTogether_24 (Nat.le_of_ble_eq_true rfl) rfl ?_
      refine s_iinc_2 (pc := 25) dX3_worthTogether_25 (Nat.le_of_ble_eq_true rfl) rfl ?_
      refine s_goto (pc := 28) 4 dX3_worthTogether_28 rfl ?_
      refine s_le ?_ (ih (i + 1) (by omega) (by omega) (by omega))
      rw [hsu]
      exact ⟨Or.inr rfl, Or.inr rfl, Or.inr rfl, trivial⟩
theorem c_X3_worthTogether {tx : Int → Int} {n : Int} {μ : Mem} (hQ : RQ tx n μ) (hn : 0 ≤ n ∧ n ≤ 60) : Mc kX3_worthTogether [.inr (.inr 1)] μ (pI (fun z ν => sm (fun p => pPr tx n (4 * p + 3)) (pPe tx n).toNat = z ∧ μ = ν)) := by
  refine Mc_of (by decide +kernel) (fun _ => Nat.le_of_ble_eq_true rfl) ?_
  show AW kX3_worthTogether 0 [some (.inr (.inr 1)), none, none] [] μ _
  refine s_iconst_0 (pc := 0) dX3_worthTogether_0 ?_
  refine s_istore_1 (pc := 1) dX3_worthTogether_1 (Nat.le_of_ble_eq_true rfl) rfl ?_
  refine s_iconst_0 (pc := 2) dX3_worthTogether_2 ?_
  refine s_istore_2 (pc := 3) dX3_worthTogether_3 (Nat.le_of_ble_eq_true rfl) rfl ?_
  have hpe := pPe_in (tx := tx) hn.1
  have hta := pTa_in (tx := tx) hn.1
  exact lp_X3_worthTogether hQ hn 5 0 (by omega) (by omega) (by omega)
