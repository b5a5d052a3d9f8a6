theorem ruleF_no {tx : Int → Int} {n a w hi : Int} {s : PS} (h0 : 0 ≤ s.1) (h1 : s.1 ≤ n) (e : ruleF tx n s w hi = .inl a) : 0 ≤ a ∧ a ≤ n + 5 := by
  unfold ruleF at e
  split at e
  · cases e
  · cases e; omega
theorem partF_no {tx : Int → Int} {n a : Int} {s : PS} (h0 : 0 ≤ s.1) (h1 : s.1 ≤ n) (e : partF tx n s = .inl a) : 0 ≤ a ∧ a ≤ n + 5 := by
  unfold partF at e
  split at e
  · unfold personF at e
    split at e
    · cases e; omega
    · split at e
      · cases e
      · have := f4_in (tx := tx) (n := n) (a := s.1 + 1)
        cases e; omega
  split at e
  · unfold taleF at e
    split at e
    · cases e; omega
    · split at e
      · cases e
      · cases e; omega
  split at e
  · exact ruleF_no h0 h1 e
  split at e
  · exact ruleF_no h0 h1 e
  split at e
  · exact ruleF_no h0 h1 e
  · cases e; omega
theorem partsF_no {tx : Int → Int} {n a : Int} : ∀ (f : Nat) {s : PS}, PSok n s → partsF tx n f s = .inl a → 0 ≤ a ∧ a ≤ n + 5
  | 0, s, h, e => by
    have h1 := h.1
    have h2 := h.2.1
    cases e
    omega
  | f + 1, s, h, e => by
    unfold partsF at e
    split at e
    · rename_i b hb
      cases e
      exact partF_no h.1 h.2.1 hb
    · rename_i u hu
      have h1 := partF_ok h hu
      split at e
      · cases e
      · split at e
        · refine partsF_no f (s := (u.1 + 1, u.2)) ?_ e
          obtain ⟨a1, a2, a3⟩ := h1.1
          exact ⟨by dsimp only; omega, by dsimp only; omega, a3⟩
        · have h3 := h1.1.1
          have h4 := h1.1.2.1
          cases e
          omega
theorem pFa_in {tx : Int → Int} {n : Int} (h : 0 ≤ n) : -1 ≤ pFa tx n ∧ pFa tx n ≤ n + 5 := by
  unfold pFa
  split
  · rename_i a ha
    unfold resF at ha
    split at ha
    · cases ha
    · have := partsF_no 60 (s0_ok h) ha
      omega
  · omega
theorem lp_X9_dgc {tx : Int → Int} {n h : Int} {wt : Int → Int} {μ : Mem} {post : Option AV → Mem → Prop} (e43 : μ 43 = tx) (e122 : μ 122 0 = n) (hn : 0 ≤ n ∧ n ≤ 60) (ht : ∀ k : Int, 0 ≤ k → k < n → 0 ≤ tx k ∧ tx k ≤ 255) (hS : SW μ) (e57 : μ 57 = wt) (hwt : ∀ k : Int, 0 ≤ k → k < 5 → 0 ≤ wt k ∧ wt k ≤ 9) (h121 : -2147483648 ≤ μ 121 0 ∧ μ 121 0 < 2147483648) (hk : ∀ ν, Fr [44, 45, 46, 123, 124, 125] μ ν → AW kX9_digest 31 [some (.inr (.inr 9)), some (.inr (.inl (mxs (cnV tx n μ) h 8))), none, none, none, none] [] ν post) : ∀ (f : Nat) (i : Int) (ν : Mem), (0 ≤ i) → (i ≤ 8) → (Fr [44, 45, 46, 123, 124, 125] μ ν) → 8 - i < (f : Int) → AW kX9_digest 6 [some (.inr (.inr 9)), some (.inr (.inl (mxs (cnV tx n μ) h i.toNat))), none, some (.inl i), none, none] [] ν (post) := by
  intro f
  induction f with
  | zero =>
    intro i ν h0 h1 hF hm
    exfalso; omega
  | succ f ih =>
    intro i ν h0 h1 hF hm
    have hsu := mxs_succ (f := cnV tx n μ) (h := h) h0
    have c135 : ν 135 0 = μ 135 0 := hF.at 135 rfl 0
    have h60 := hS.1
    have hcn := cnV_in (tx := tx) (n := n) (q := i) (μ := μ) hn hS (by rw [e57]; exact hwt) h121
    refine s_iload_3 (pc := 6) dX9_digest_6 ?_
    refine s_bipush (pc := 7) (z := 8) dX9_digest_7 rfl ?_
    refine s_icmp_ge (pc := 9) 31 dX9_digest_9 rfl (by omega) (by omega) (fun h9 => ?_) (fun h9 => ?_)
    · cases (show i = 8 by omega)
      refine s_le ?_ (hk ν hF)
      exact ⟨Or.inr rfl, Or.inr rfl, Or.inl rfl, Or.inl rfl, Or.inl rfl, Or.inl rfl, trivial⟩
    · refine s_ldc2_w (pc := 12) dX9_digest_12 rfl cnX9_350 ?_
      refine s_lload_1 (pc := 15) dX9_digest_15 ?_
      refine s_lmul (pc := 16) dX9_digest_16 ?_
      refine s_aload_0 (pc := 17) dX9_digest_17 ?_
      refine s_iload_3 (pc := 18) dX9_digest_18 ?_
      refine cV1i (pc := 19) (Ky := kX9_count) dX9_digest_19 rfl lnX9_352 okX9_count ⟨9, TX9, 40, rfl, rfl⟩ ⟨Nat.le_of_ble_eq_true rfl, Nat.le_of_ble_eq_true rfl⟩ (Nat.le_of_ble_eq_true rfl) (c_X9_count (by omega) (by omega) (by rw [hF.fn 43 rfl]; exact e43) (by rw [hF.at 122 rfl 0]; exact e122) hn ht) ?_
      rintro _ ν19 ⟨rfl, hF19⟩
      rw [cnV_fr (hF.fn 62 rfl) (hF.fn 57 rfl) (hF.fn 135 rfl) (hF.fn 121 rfl)]
      have hF := hF.tr hF19
      refine s_i2l (pc := 22) dX9_digest_22 (by omega) ?_
      refine s_ladd (pc := 23) dX9_digest_23 ?_
      refine s_lstore_1 (pc := 24) dX9_digest_24 (Nat.le_of_ble_eq_true rfl) rfl ?_
      refine s_iinc_3 (pc := 25) dX9_digest_25 (Nat.le_of_ble_eq_true rfl) rfl ?_
      refine s_goto (pc := 28) 6 dX9_digest_28 rfl ?_
      refine s_le ?_ (ih (i + 1) _ (by omega) (by omega) hF (by omega))
      rw [hsu]
      exact ⟨Or.inr rfl, Or.inr rfl, Or.inl rfl, Or.inr rfl, Or.inl rfl, Or.inl rfl, trivial⟩
theorem lp_X9_dgl {tx : Int → Int} {n h : Int} {μ : Mem} {post : Option AV → Mem → Prop} (e43 : μ 43 = tx) (e122 : μ 122 0 = n) (hn : 0 ≤ n ∧ n ≤ 60) (ht : ∀ k : Int, 0 ≤ k → k < n → 0 ≤ tx k ∧ tx k ≤ 255) (hk : ∀ ν, Fr [44, 45, 46, 123, 124, 125] μ ν → AW kX9_digest 69 [some (.inr (.inr 9)), some (.inr (.inl (mxs (lwF tx n) h 3))), none, none, none, none] [] ν post) : ∀ (f : Nat) (i : Int) (ν : Mem), (0 ≤ i) → (i ≤ 3) → (Fr [44, 45, 46, 123, 124, 125] μ ν) → 3 - i < (f : Int) → AW kX9_digest 45 [some (.inr (.inr 9)), some (.inr (.inl (mxs (lwF tx n) h i.toNat))), none, some (.inl i), none, none] [] ν (post) := by
  intro f
  induction f with
  | zero =>
    intro i ν h0 h1 hF hm
    exfalso; omega
  | succ f ih =>
    intro i ν h0 h1 hF hm
    have hsu := mxs_succ (f := lwF tx n) (h := h) h0
    have hla := lwF_in (tx := tx) hn.1
    refine s_iload_3 (pc := 45) dX9_digest_45 ?_
    refine s_iconst_3 (pc := 46) dX9_digest_46 ?_
    refine s_icmp_ge (pc := 47) 69 dX9_digest_47 rfl (by omega) (by omega) (fun h47 => ?_) (fun h47 => ?_)
    · cases (show i = 3 by omega)
      refine s_le ?_ (hk ν hF)
      exact ⟨Or.inr rfl, Or.inr rfl, Or.inl rfl, Or.inl rfl, Or.inl rfl, Or.inl rfl, trivial⟩
    · refine s_ldc2_w (pc := 50) dX9_digest_50 rfl cnX9_350 ?_
      refine s_lload_1 (pc := 53) dX9_digest_53 ?_
      refine s_lmul (pc := 54) dX9_digest_54 ?_
      refine s_aload_0 (pc := 55) dX9_digest_55 ?_
      refine s_iload_3 (pc := 56) dX9_digest_56 ?_
      refine cV1i (pc := 57) (Ky := kX9_lawNow) dX9_digest_57 rfl lnX9_161 okX9_lawNow ⟨9, TX9, 40, rfl, rfl⟩ ⟨Nat.le_of_ble_eq_true rfl, Nat.le_of_ble_eq_true rfl⟩ (Nat.le_of_ble_eq_true rfl) (c_X9_lawNow (by omega) (by rw [hF.fn 43 rfl]; exact e43) (by rw [hF.at 122 rfl 0]; exact e122) hn ht) ?_
      rintro _ ν57 ⟨rfl, hF57, hM57⟩
      have hF := hF.tr hF57
      have hlr : 0 ≤ lwF tx n i ∧ lwF tx n i ≤ 3 := by
        rcases (show i = 0 ∨ i = 1 ∨ i = 2 by omega) with rfl | rfl | rfl <;> omega
      refine s_i2l (pc := 60) dX9_digest_60 (by omega) ?_
      refine s_ladd (pc := 61) dX9_digest_61 ?_
      refine s_lstore_1 (pc := 62) dX9_digest_62 (Nat.le_of_ble_eq_true rfl) rfl ?_
      refine s_iinc_3 (pc := 63) dX9_digest_63 (Nat.le_of_ble_eq_true rfl) rfl ?_
      refine s_goto (pc := 66) 45 dX9_digest_66 rfl ?_
      refine s_le ?_ (ih (i + 1) _ (by omega) (by omega) hF (by omega))
      rw [hsu]
      exact ⟨Or.inr rfl, Or.inr rfl, Or.inl rfl, Or.inr rfl, Or.inl rfl, Or.inl rfl, trivial⟩
theorem lp_X9_dgr {P h r : Int} {ν0 : Mem} {post : Option AV → Mem → Prop} (hP : 0 ≤ P ∧ P ≤ 4) (e124 : ν0 124 0 = P) (hk : ∀ ν, Fr [63] ν0 ν → (∀ p : Int, 0 ≤ p → p < P → ν 63 (2 * p) = ν0 49 p ∧ ν 63 (2 * p + 1) = ν0 50 p) → AW kX9_digest 126 [some (.inr (.inr 9)), some (.inr (.inl h)), none, some (.inl r), none, none] [] ν post) : ∀ (f : Nat) (p : Int) (ν : Mem), (0 ≤ p) → (p ≤ P) → (Fr [63] ν0 ν) → (∀ q : Int, 0 ≤ q → q < p → ν 63 (2 * q) = ν0 49 q ∧ ν 63 (2 * q + 1) = ν0 50 q) → P - p < (f : Int) → AW kX9_digest 77 [some (.inr (.inr 9)), some (.inr (.inl h)), none, some (.inl r), some (.inl p), none] [] ν (post) := by
  intro f
  induction f with
  | zero =>
    intro p ν h0 h1 hF hv hm
    exfalso; omega
  | succ f ih =>
    intro p ν h0 h1 hF hv hm
    have c124 : ν 124 0 = P := (hF.at 124 rfl 0).trans e124
    have c49 : ν 49 p = ν0 49 p := hF.at 49 rfl p
    have c50 : ν 50 p = ν0 50 p := hF.at 50 rfl p
    refine s_iload_4 (pc := 77) dX9_digest_77 ?_
    refine s_aload_0 (pc := 79) dX9_digest_79 ?_
    refine gfX9_126 (pc := 80) dX9_digest_80 rfl ?_
    try simp (decide := true) only [wr_s, wr_n, wa_s, wa_n, mg_i, mg_o, if_true, eq_self, reduceIte]
    try rw [c124]
    try rw [c49]
    try rw [c50]
    refine s_icmp_ge (pc := 83) 126 dX9_digest_83 rfl (by omega) (by omega) (fun h83 => ?_) (fun h83 => ?_)
    · cases (show p = P by omega)
      refine s_le ?_ (hk ν hF hv)
      exact ⟨Or.inr rfl, Or.inr rfl, Or.inl rfl, Or.inr rfl, Or.inl rfl, Or.inl rfl, trivial⟩
    · refine s_aload_0 (pc := 86) dX9_digest_86 ?_
      refine gfX9_84 (pc := 87) dX9_digest_87 rfl ?_
      refine s_iconst_2 (pc := 90) dX9_digest_90 ?_
      refine s_iload_4 (pc := 91) dX9_digest_91 ?_
      refine s_imul (pc := 93) dX9_digest_93 ?_
      refine s_aload_0 (pc := 94) dX9_digest_94 ?_
      refine gfX9_40 (pc := 95) dX9_digest_95 rfl ?_
      refine s_iload_4 (pc := 98) dX9_digest_98 ?_
      refine z_iaload (pc := 100) dX9_digest_100 ly_49 (by omega) (by omega) ?_
      try simp (decide := true) only [wr_s, wr_n, wa_s, wa_n, mg_i, mg_o, if_true, eq_self, reduceIte]
      try rw [c124]
      try rw [c49]
      try rw [c50]
      refine z_iastore (pc := 101) dX9_digest_101 ly_63 ip_63 (by omega) (by omega) ?_
      refine s_aload_0 (pc := 102) dX9_digest_102 ?_
      refine gfX9_84 (pc := 103) dX9_digest_103 rfl ?_
      refine s_iconst_2 (pc := 106) dX9_digest_106 ?_
      refine s_iload_4 (pc := 107) dX9_digest_107 ?_
      refine s_imul (pc := 109) dX9_digest_109 ?_
      refine s_iconst_1 (pc := 110) dX9_digest_110 ?_
      refine s_iadd (pc := 111) dX9_digest_111 ?_
      refine s_aload_0 (pc := 112) dX9_digest_112 ?_
      refine gfX9_43 (pc := 113) dX9_digest_113 rfl ?_
      refine s_iload_4 (pc := 116) dX9_digest_116 ?_
      refine z_iaload (pc := 118) dX9_digest_118 ly_50 (by omega) (by omega) ?_
      try simp (decide := true) only [wr_s, wr_n, wa_s, wa_n, mg_i, mg_o, if_true, eq_self, reduceIte]
      try rw [c124]
      try rw [c49]
      try rw [c50]
      refine z_iastore (pc := 119) dX9_digest_119 ly_63 ip_63 (by omega) (by omega) ?_
      refine s_iinc_4 (pc := 120) dX9_digest_120 (Nat.le_of_ble_eq_true rfl) rfl ?_
      refine s_goto (pc := 123) 77 dX9_digest_123 rfl ?_
      refine s_le ?_ (ih (p + 1) _ (by omega) (by omega) ((hF.wr (by decide)).wr (by decide)) (fun q q0 q1 => ?_) (by omega))
      · exact ⟨Or.inr rfl, Or.inr rfl, Or.inl rfl, Or.inr rfl, Or.inr rfl, Or.inl rfl, trivial⟩
      · by_cases hq : q = p
        · rw [hq]
          refine ⟨?_, by rw [wr_s, if_pos rfl]⟩
          rw [wr_s, if_neg (by omega), wr_s, if_pos rfl]
        · have := hv q q0 (by omega)
          refine ⟨?_, ?_⟩
          · rw [wr_s, if_neg (by omega), wr_s, if_neg (by omega)]; exact this.1
          · rw [wr_s, if_neg (by omega), wr_s, if_neg (by omega)]; exact this.2
theorem lp_X9_dgs2 {tx : Int → Int} {n h r : Int} {hd lv wt : Int → Int} {μ : Mem} {g : Int → Int} {post : Option AV → Mem → Prop} (e43 : μ 43 = tx) (e122 : μ 122 0 = n) (hn : 0 ≤ n ∧ n ≤ 60) (ht : ∀ k : Int, 0 ≤ k → k < n → 0 ≤ tx k ∧ tx k ≤ 255) (e47 : μ 47 = hd) (e48 : μ 48 = lv) (hhd : ∀ p : Int, 0 ≤ p → p < 4 → 0 ≤ hd p ∧ hd p ≤ 15) (hlv : ∀ p : Int, 0 ≤ p → p < 4 → 0 ≤ lv p ∧ lv p ≤ 4) (hS : SW μ) (e57 : μ 57 = wt) (hwt : ∀ k : Int, 0 ≤ k → k < 5 → 0 ≤ wt k ∧ wt k ≤ 9) (h121 : -2147483648 ≤ μ 121 0 ∧ μ 121 0 < 2147483648) (g01 : ∀ p : Int, 0 ≤ p → p < pPe tx n → g (2 * p) = (rs (cfg tx n hd lv)).1 49 p ∧ g (2 * p + 1) = (rs (cfg tx n hd lv)).1 50 p) (hk : ∀ ν, FrT tx n [42, 44, 45, 46, 49, 50, 51, 52, 53, 54, 55, 56, 123, 124, 125, 126, 127, 128, 129, 130, 131, 132, 133, 134, 63] μ ν → AW kX9_digest 479 [some (.inr (.inr 9)), some (.inr (.inl (dgPs (cfg tx n hd lv) wt μ h (pPe tx n).toNat))), none, some (.inl r), none, none] [] ν post) : ∀ (f : Nat) (p : Int) (ν : Mem), (0 ≤ p) → (p ≤ pPe tx n) → (FrT tx n [42, 44, 45, 46, 49, 50, 51, 52, 53, 54, 55, 56, 123, 124, 125, 126, 127, 128, 129, 130, 131, 132, 133, 134, 63] μ ν) → (ν 63 = g) → pPe tx n - p < (f : Int) → AW kX9_digest 129 [some (.inr (.inr 9)), some (.inr (.inl (dgPs (cfg tx n hd lv) wt μ h p.toNat))), none, some (.inl r), some (.inl p), none] [] ν (post) := by
  intro f
  induction f with
  | zero =>
    intro p ν h0 h1 hG c63 hm
    exfalso; omega
  | succ f ih =>
    intro p ν h0 h1 hG c63 hm
    have hpe := pPe_in (tx := tx) hn.1
    have hta := pTa_in (tx := tx) hn.1
    have hKR := cfg_KR (tx := tx) (n := n) hn.1 hhd hlv
    obtain ⟨c124, c125⟩ := id hG.2
    have hsu := dgPs_succ (κ := (cfg tx n hd lv)) (wt := wt) (μ := μ) (h := h) h0
    refine s_iload_4 (pc := 129) dX9_digest_129 ?_
    refine s_aload_0 (pc := 131) dX9_digest_131 ?_
    refine gfX9_126 (pc := 132) dX9_digest_132 rfl ?_
    try rw [c124]
    refine s_icmp_ge (pc := 135) 479 dX9_digest_135 rfl (by omega) (by omega) (fun h135 => ?_) (fun h135 => ?_)
    · cases (show p = pPe tx n by omega)
      refine s_le ?_ (hk ν hG)
      exact ⟨Or.inr rfl, Or.inr rfl, Or.inl rfl, Or.inr rfl, Or.inl rfl, Or.inl rfl, trivial⟩
    · have hgp := g01 p h0 (by omega)
      refine s_le ?_ (lp_X9_dgp (g := g) (r := r) (p := p) (h := dgPs (cfg tx n hd lv) wt μ h p.toNat) e43 e122 hn ht e47 e48 hhd hlv hS e57 hwt h121 (by omega) (cfg_KO hKR (by omega)) hgp.1 hgp.2 ?_ 1 ν hG c63 (by omega))
      · exact ⟨Or.inr rfl, Or.inr rfl, Or.inl rfl, Or.inr rfl, Or.inr rfl, Or.inl rfl, trivial⟩
      intro ν9 hG c63
      refine s_iinc_4 (pc := 473) dX9_digest_473 (Nat.le_of_ble_eq_true rfl) rfl ?_
      refine s_goto (pc := 476) 129 dX9_digest_476 rfl ?_
      refine s_le ?_ (ih (p + 1) _ (by omega) (by omega) hG c63 (by omega))
      rw [hsu]
      exact ⟨Or.inr rfl, Or.inr rfl, Or.inl rfl, Or.inr rfl, Or.inr rfl, Or.inl rfl, trivial⟩
theorem c_X9_digest {tx : Int → Int} {n : Int} {hd lv wt : Int → Int} {μ : Mem} (e43 : μ 43 = tx) (e122 : μ 122 0 = n) (hn : 0 ≤ n ∧ n ≤ 60) (ht : ∀ k : Int, 0 ≤ k → k < n → 0 ≤ tx k ∧ tx k ≤ 255) (e47 : μ 47 = hd) (e48 : μ 48 = lv) (hhd : ∀ p : Int, 0 ≤ p → p < 4 → 0 ≤ hd p ∧ hd p ≤ 15) (hlv : ∀ p : Int, 0 ≤ p → p < 4 → 0 ≤ lv p ∧ lv p ≤ 4) (hS : SW μ) (e57 : μ 57 = wt) (hwt : ∀ k : Int, 0 ≤ k → k < 5 → 0 ≤ wt k ∧ wt k ≤ 9) (h121 : -2147483648 ≤ μ 121 0 ∧ μ 121 0 < 2147483648) : Mc kX9_digest [.inr (.inr 9)] μ (pL (fun z ν => dgst (cfg tx n hd lv) wt μ (mxs (lwF tx n) (mx (mxs (cnV tx n μ) 17 8) (pFa tx n)) 3) = z ∧ Fr [42, 44, 45, 46, 49, 50, 51, 52, 53, 54, 55, 56, 123, 124, 125, 126, 127, 128, 129, 130, 131, 132, 133, 134, 63] μ ν)) := by
  refine Mc_of (by decide +kernel) (fun _ => Nat.le_of_ble_eq_true rfl) ?_
  show AW kX9_digest 0 [some (.inr (.inr 9)), none, none, none, none, none] [] μ _
  have hpe := pPe_in (tx := tx) hn.1
  have hta := pTa_in (tx := tx) hn.1
  have hKR := cfg_KR (tx := tx) (n := n) hn.1 hhd hlv
  refine s_ldc2_w (pc := 0) dX9_digest_0 rfl cnX9_348 ?_
  refine s_lstore_1 (pc := 3) dX9_digest_3 (Nat.le_of_ble_eq_true rfl) rfl ?_
  refine s_iconst_0 (pc := 4) dX9_digest_4 ?_
  refine s_istore_3 (pc := 5) dX9_digest_5 (Nat.le_of_ble_eq_true rfl) rfl ?_
  refine s_le ?_ (lp_X9_dgc (n := n) (tx := tx) (h := 17) e43 e122 hn ht hS e57 hwt h121 ?_ 9 0 μ (by omega) (by omega) Fr.rf (by omega))
  · exact ⟨Or.inr rfl, Or.inr rfl, Or.inl rfl, Or.inr rfl, Or.inl rfl, Or.inl rfl, trivial⟩
  intro ν1 hF
  refine s_ldc2_w (pc := 31) dX9_digest_31 rfl cnX9_350 ?_
  refine s_lload_1 (pc := 34) dX9_digest_34 ?_
  refine s_lmul (pc := 35) dX9_digest_35 ?_
  refine s_aload_0 (pc := 36) dX9_digest_36 ?_
  refine cV0i (pc := 37) (Ky := kX9_reads) dX9_digest_37 rfl lnX9_155 okX9_reads ⟨9, TX9, 40, rfl, rfl⟩ ⟨Nat.le_of_ble_eq_true rfl, Nat.le_of_ble_eq_true rfl⟩ (Nat.le_of_ble_eq_true rfl) (c_X9_reads (by rw [hF.fn 43 rfl]; exact e43) (by rw [hF.at 122 rfl 0]; exact e122) hn ht) ?_
  rintro _ ν37 ⟨rfl, hF37, hR37⟩
  have hF := hF.tr hF37
  have hfa := pFa_in (tx := tx) (n := n) hn.1
  refine s_i2l (pc := 40) dX9_digest_40 (by omega) ?_
  refine s_ladd (pc := 41) dX9_digest_41 ?_
  refine s_lstore_1 (pc := 42) dX9_digest_42 (Nat.le_of_ble_eq_true rfl) rfl ?_
  refine s_iconst_0 (pc := 43) dX9_digest_43 ?_
  refine s_istore_3 (pc := 44) dX9_digest_44 (Nat.le_of_ble_eq_true rfl) rfl ?_
  refine s_le ?_ (lp_X9_dgl (n := n) (tx := tx) (μ := ν37) (h := mx (mxs (cnV tx n μ) 17 8) (pFa tx n)) (by rw [hF.fn 43 rfl]; exact e43) (by rw [hF.at 122 rfl 0]; exact e122) hn ht ?_ 4 0 ν37 (by omega) (by omega) Fr.rf (by omega))
  · exact ⟨Or.inr rfl, Or.inr rfl, Or.inl rfl, Or.inr rfl, Or.inl rfl, Or.inl rfl, trivial⟩
  intro ν3 hF3
  have hF := hF.tr hF3
  refine s_aload_0 (pc := 69) dX9_digest_69 ?_
  refine cV0i (pc := 70) (Ky := kX9_rests) dX9_digest_70 rfl lnX9_285 okX9_rests ⟨9, TX9, 40, rfl, rfl⟩ ⟨Nat.le_of_ble_eq_true rfl, Nat.le_of_ble_eq_true rfl⟩ (Nat.le_of_ble_eq_true rfl) (c_X9_rests (tx := tx) (n := n) (hd := hd) (lv := lv) (by rw [hF.fn 43 rfl]; exact e43) (by rw [hF.at 122 rfl 0]; exact e122) hn ht (by rw [hF.fn 47 rfl]; exact e47) (by rw [hF.fn 48 rfl]; exact e48) hhd hlv) ?_
  rintro _ ν70 ⟨rfl, hT70, hM70⟩
  have hG : FrT tx n [42, 44, 45, 46, 49, 50, 51, 52, 53, 54, 55, 56, 123, 124, 125, 126, 127, 128, 129, 130, 131, 132, 133, 134, 63] μ ν70 := FrT.ch (hF.mono (by decide)) hT70 (by decide)
  have hrc := rsN_ct (κ := (cfg tx n hd lv)) 20
  have hrr : -1 ≤ sRest (cfg tx n hd lv) (-1) 0 ∧ sRest (cfg tx n hd lv) (-1) 0 ≤ 20 := by
    rw [sRest, if_pos rfl]
    unfold rs
    split <;> omega
  refine s_istore_3 (pc := 73) dX9_digest_73 (Nat.le_of_ble_eq_true rfl) rfl ?_
  refine s_iconst_0 (pc := 74) dX9_digest_74 ?_
  refine s_istore_4 (pc := 75) dX9_digest_75 (Nat.le_of_ble_eq_true rfl) rfl ?_
  refine s_le ?_ (lp_X9_dgr (P := pPe tx n) (h := mxs (lwF tx n) (mx (mxs (cnV tx n μ) 17 8) (pFa tx n)) 3) (r := sRest (cfg tx n hd lv) (-1) 0) (ν0 := ν70) hpe hT70.2.1 ?_ 5 0 ν70 (by omega) (by omega) Fr.rf (fun q q0 q1 => by omega) (by omega))
  · exact ⟨Or.inr rfl, Or.inr rfl, Or.inl rfl, Or.inr rfl, Or.inr rfl, Or.inl rfl, trivial⟩
  intro ν4 hF4 hv4
  have hG := hG.tr (hF4.mono (by decide))
  refine s_iconst_0 (pc := 126) dX9_digest_126 ?_
  refine s_istore_4 (pc := 127) dX9_digest_127 (Nat.le_of_ble_eq_true rfl) rfl ?_
  refine s_le ?_ (lp_X9_dgs2 (g := ν4 63) (h := mxs (lwF tx n) (mx (mxs (cnV tx n μ) 17 8) (pFa tx n)) 3) (r := sRest (cfg tx n hd lv) (-1) 0) e43 e122 hn ht e47 e48 hhd hlv hS e57 hwt h121 (fun p p0 p1 => ?_) ?_ 5 0 ν4 (by omega) (by omega) hG rfl (by omega))
  · exact ⟨Or.inr rfl, Or.inr rfl, Or.inl rfl, Or.inr rfl, Or.inr rfl, Or.inl rfl, trivial⟩
  · have hv := hv4 p p0 p1
    have hm := hM70.2.2.2.2.2.2.2.1 p p0 (by omega)
    exact ⟨hv.1.trans hm.1, hv.2.trans hm.2.1⟩
  intro ν5 hG
  refine s_ldc2_w (pc := 479) dX9_digest_479 rfl cnX9_350 ?_
  refine s_lload_1 (pc := 482) dX9_digest_482 ?_
  refine s_lmul (pc := 483) dX9_digest_483 ?_
  refine s_iload_3 (pc := 484) dX9_digest_484 ?_
  refine s_i2l (pc := 485) dX9_digest_485 (by omega) ?_
  refine s_ladd (pc := 486) dX9_digest_486 ?_
  refine s_lstore_1 (pc := 487) dX9_digest_487 (Nat.le_of_ble_eq_true rfl) rfl ?_
  refine s_ldc2_w (pc := 488) dX9_digest_488 rfl cnX9_350 ?_
  refine s_lload_1 (pc := 491) dX9_digest_491 ?_
  refine s_lmul (pc := 492) dX9_digest_492 ?_
  refine s_aload_0 (pc := 493) dX9_digest_493 ?_
  refine s_iconst_0 (pc := 494) dX9_digest_494 ?_
  refine cV1l (pc := 495) (Ky := kX9_twoOf) dX9_digest_495 rfl lnX9_314 okX9_twoOf ⟨9, TX9, 40, rfl, rfl⟩ ⟨Nat.le_of_ble_eq_true rfl, Nat.le_of_ble_eq_true rfl⟩ (Nat.le_of_ble_eq_true rfl) (c_X9_twoOf (tx := tx) (n := n) (hd := hd) (lv := lv) (by omega) (by rw [hG.fn 43 rfl]; exact e43) (by rw [hG.at 122 rfl 0]; exact e122) hn ht (by rw [hG.fn 47 rfl]; exact e47) (by rw [hG.fn 48 rfl]; exact e48) hhd hlv) ?_
  rintro _ ν495 ⟨rfl, hF495⟩
  have hG := FrT.ch hG.1 hF495 (by decide)
  obtain ⟨c124, c125⟩ := id hG.2
  refine s_ladd (pc := 498) dX9_digest_498 ?_
  refine s_lstore_1 (pc := 499) dX9_digest_499 (Nat.le_of_ble_eq_true rfl) rfl ?_
  refine s_ldc2_w (pc := 500) dX9_digest_500 rfl cnX9_350 ?_
  refine s_lload_1 (pc := 503) dX9_digest_503 ?_
  refine s_lmul (pc := 504) dX9_digest_504 ?_
  refine s_aload_0 (pc := 505) dX9_digest_505 ?_
  refine s_iconst_1 (pc := 506) dX9_digest_506 ?_
  refine cV1l (pc := 507) (Ky := kX9_twoOf) dX9_digest_507 rfl lnX9_314 okX9_twoOf ⟨9, TX9, 40, rfl, rfl⟩ ⟨Nat.le_of_ble_eq_true rfl, Nat.le_of_ble_eq_true rfl⟩ (Nat.le_of_ble_eq_true rfl) (c_X9_twoOf (tx := tx) (n := n) (hd := hd) (lv := lv) (by omega) (by rw [hG.fn 43 rfl]; exact e43) (by rw [hG.at 122 rfl 0]; exact e122) hn ht (by rw [hG.fn 47 rfl]; exact e47) (by rw [hG.fn 48 rfl]; exact e48) hhd hlv) ?_
  rintro _ ν507 ⟨rfl, hF507⟩
  have hG := FrT.ch hG.1 hF507 (by decide)
  obtain ⟨c124, c125⟩ := id hG.2
  refine s_ladd (pc := 510) dX9_digest_510 ?_
  refine s_lreturn (pc := 511) dX9_digest_511 rfl ?_
  exact ⟨rfl, hG.1⟩
