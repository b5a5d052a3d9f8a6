theorem RM_of {tx : Int → Int} {n : Int} {t : PS} {ν : Mem} (h : resF tx n = .inr t) (hR : RP t ν) : pFa tx n = -1 ∧ RM tx n ν := by
  have he : pEnd tx n = t := by unfold pEnd; rw [h]
  obtain ⟨a1, a2, a3, a4, a5, a6⟩ := hR
  refine ⟨by unfold pFa; rw [h], ?_, ?_, ?_, ?_, ?_⟩
  · unfold pPe; rw [he]; exact a2
  · unfold pTa; rw [he]; exact a3
  · unfold pLa; rw [he]; exact a4
  · unfold pPe pPr; rw [he]; exact a5
  · unfold pTa pFu; rw [he]; exact a6
theorem RM_no {tx : Int → Int} {n p : Int} {ν : Mem} (h : resF tx n = .inl p) (h1 : ν 124 0 = 0) (h2 : ν 125 0 = 0) (h3 : ∀ k : Int, 0 ≤ k → k < 3 → ν 46 k = 0) : pFa tx n = p ∧ RM tx n ν := by
  have he : pEnd tx n = s0 := by unfold pEnd; rw [h]
  refine ⟨by unfold pFa; rw [h], ?_, ?_, ?_, ?_, ?_⟩
  · unfold pPe; rw [he]; exact h1
  · unfold pTa; rw [he]; exact h2
  · unfold pLa; rw [he]; exact h3
  · unfold pPe; rw [he]; intro k k0 k1; dsimp only [s0] at k1; omega
  · unfold pTa; rw [he]; intro k k0 k1; dsimp only [s0] at k1; omega
theorem parts_in {tx : Int → Int} {n p : Int} {g : Nat} {s : PS} (h : partF tx n s = .inl p) (hg : 0 < g) : partsF tx n g s = .inl p := by
  cases g with
  | zero => omega
  | succ g => unfold partsF; rw [h]
theorem parts_st {tx : Int → Int} {n : Int} {g : Nat} {s t : PS} (h : partF tx n s = .inr t) (hg : 0 < g) : partsF tx n g s = (if n ≤ t.1 then .inr t else if hr tx n t.1 = 59 then partsF tx n (g - 1) (t.1 + 1, t.2) else .inl t.1) := by
  cases g with
  | zero => omega
  | succ g =>
    conv => lhs; unfold partsF
    rw [h]
    rfl
theorem Fr.set {F : List Nat} {μ ν ρ : Mem} (h1 : Fr F μ ν) (h2 : Fr F ν ρ) : Fr F μ ρ := h1.tr h2
theorem lp_X9_clears {μ : Mem} : ∀ (f : Nat) (k : Int) (ν : Mem), (0 ≤ k) → (k ≤ 3) → (Fr [46, 124, 125] μ ν) → (ν 124 0 = 0) → (ν 125 0 = 0) → (∀ j : Int, 0 ≤ j → j < k → ν 46 j = 0) → 3 - k < (f : Int) → AW kX9_clears 12 [some (.inr (.inr 9)), some (.inl k)] [] ν (pV (fun ν => Fr [46, 124, 125] μ ν ∧ ν 124 0 = 0 ∧ ν 125 0 = 0 ∧ ∀ k : Int, 0 ≤ k → k < 3 → ν 46 k = 0)) := by
  intro f
  induction f with
  | zero =>
    intro k ν h0 h1 hF a1 a2 a3 hm
    exfalso; omega
  | succ f ih =>
    intro k ν h0 h1 hF a1 a2 a3 hm
    refine s_iload_1 (pc := 12) dX9_clears_12 ?_
    refine s_iconst_3 (pc := 13) dX9_clears_13 ?_
    refine s_icmp_ge (pc := 14) 30 dX9_clears_14 rfl (by omega) (by omega) (fun h14 => ?_) (fun h14 => ?_)
    · refine s_return (pc := 30) dX9_clears_30 rfl ?_
      exact ⟨hF, a1, a2, fun j j0 j1 => a3 j j0 (by omega)⟩
    · refine s_aload_0 (pc := 17) dX9_clears_17 ?_
      refine gfX9_31 (pc := 18) dX9_clears_18 rfl ?_
      refine s_iload_1 (pc := 21) dX9_clears_21 ?_
      refine s_iconst_0 (pc := 22) dX9_clears_22 ?_
      refine z_iastore (pc := 23) dX9_clears_23 ly_46 ip_46 (by omega) (by omega) ?_
      refine s_iinc_1 (pc := 24) dX9_clears_24 (Nat.le_of_ble_eq_true rfl) rfl ?_
      refine s_goto (pc := 27) 12 dX9_clears_27 rfl ?_
      refine ih (k + 1) _ (by omega) (by omega) (hF.wr (by decide)) ?_ ?_ (fun j j0 j1 => ?_) (by omega)
      · simp (decide := true) only [wr_s, wr_n, wa_s, wa_n, mg_i, mg_o, if_true, eq_self, reduceIte]; exact a1
      · simp (decide := true) only [wr_s, wr_n, wa_s, wa_n, mg_i, mg_o, if_true, eq_self, reduceIte]; exact a2
      · simp (decide := true) only [wr_s, wr_n, wa_s, wa_n, mg_i, mg_o, if_true, eq_self, reduceIte]
        by_cases hj : j = k
        · rw [if_pos hj]
        · rw [if_neg hj]; exact a3 j j0 (by omega)
theorem c_X9_clears {μ : Mem} : Mc kX9_clears [.inr (.inr 9)] μ (pV (fun ν => Fr [46, 124, 125] μ ν ∧ ν 124 0 = 0 ∧ ν 125 0 = 0 ∧ ∀ k : Int, 0 ≤ k → k < 3 → ν 46 k = 0)) := by
  refine Mc_of (by decide +kernel) (fun _ => Nat.le_of_ble_eq_true rfl) ?_
  show AW kX9_clears 0 [some (.inr (.inr 9)), none] [] μ _
  refine s_aload_0 (pc := 0) dX9_clears_0 ?_
  refine s_iconst_0 (pc := 1) dX9_clears_1 ?_
  refine pfX9_126 (pc := 2) dX9_clears_2 rfl ?_
  refine s_aload_0 (pc := 5) dX9_clears_5 ?_
  refine s_iconst_0 (pc := 6) dX9_clears_6 ?_
  refine pfX9_129 (pc := 7) dX9_clears_7 rfl ?_
  refine s_iconst_0 (pc := 10) dX9_clears_10 ?_
  refine s_istore_1 (pc := 11) dX9_clears_11 (Nat.le_of_ble_eq_true rfl) rfl ?_
  refine lp_X9_clears 4 0 _ (by omega) (by omega) (((Fr.rf (F := [46, 124, 125])).wr (by decide)).wr (by decide)) ?_ ?_ (fun j j0 j1 => by omega) (by omega)
  · simp (decide := true) only [wr_s, wr_n, wa_s, wa_n, mg_i, mg_o, if_true, eq_self, reduceIte]
  · simp (decide := true) only [wr_s, wr_n, wa_s, wa_n, mg_i, mg_o, if_true, eq_self, reduceIte]
theorem lp_X9_reads {tx : Int → Int} {n : Int} {μ : Mem} (e43 : μ 43 = tx) (e122 : μ 122 0 = n) (hn : 0 ≤ n ∧ n ≤ 60) (ht : ∀ k : Int, 0 ≤ k → k < n → 0 ≤ tx k ∧ tx k ≤ 255) : ∀ (f : Nat) (s : PS) (g : Nat) (ν : Mem), (Fr [44, 45, 46, 123, 124, 125] μ ν) → (RP s ν) → (PSok n s) → (s.1 ≤ n) → (n - s.1 < 2 * (g : Int)) → (partsF tx n g s = resF tx n) → n - s.1 < (f : Int) → AW kX9_reads 22 [some (.inr (.inr 9)), some (.inl 1)] [] ν (pI (fun z ν => pFa tx n = z ∧ Fr [44, 45, 46, 123, 124, 125] μ ν ∧ RM tx n ν)) := by
  intro f
  induction f with
  | zero =>
    intro s g ν hF hR hok hlt hg he hm
    exfalso; omega
  | succ f ih =>
    intro s g ν hF hR hok hlt hg he hm
    have f43 : ν 43 = tx := (hF.fn 43 rfl).trans e43
    have f122 : ν 122 0 = n := (hF.at 122 rfl 0).trans e122
    refine s_iload_1 (pc := 22) dX9_reads_22 ?_
    refine s_if_eq (pc := 23) 102 dX9_reads_23 rfl (by omega) (fun h23 => ?_) (fun h23 => ?_)
    · exact absurd h23 (by decide)
    · refine s_aload_0 (pc := 26) dX9_reads_26 ?_
      refine cV0i (pc := 27) (Ky := kX9_readsPart) dX9_reads_27 rfl lnX9_152 okX9_readsPart ⟨9, TX9, 40, rfl, rfl⟩ ⟨Nat.le_of_ble_eq_true rfl, Nat.le_of_ble_eq_true rfl⟩ (Nat.le_of_ble_eq_true rfl) (c_X9_readsPart f43 f122 hn ht hR hok) ?_
      rintro _ ν27 (⟨t, hp27, rfl, hR27, hG27⟩ | ⟨p, hp27, rfl, ha27, hG27⟩)
      · have g43 : ν27 43 = tx := (hG27.fn 43 rfl).trans f43
        have g122 : ν27 122 0 = n := (hG27.at 122 rfl 0).trans f122
        have hpo := partF_ok hok hp27
        have hht := hr_in (tx := tx) (n := n) (a := t.1) (by have := hpo.1.1; omega) ht
        have hr1 := hR27.1
        have hb0 := hpo.1.1
        have hb1 := hpo.1.2.1
        have hst := parts_st hp27 (g := g) (by omega)
        refine s_if_ne (pc := 30) 42 dX9_reads_30 rfl (by omega) (fun h30 => ?_) (fun h30 => ?_)
        · refine s_aload_0 (pc := 42) dX9_reads_42 ?_
          refine gfX9_123 (pc := 43) dX9_reads_43 rfl ?_
          refine s_aload_0 (pc := 46) dX9_reads_46 ?_
          refine gfX9_120 (pc := 47) dX9_reads_47 rfl ?_
          refine s_icmp_ge (pc := 50) 57 dX9_reads_50 rfl (by omega) (by omega) (fun h50 => ?_) (fun h50 => ?_)
          · refine s_iconst_0 (pc := 57) dX9_reads_57 ?_
            refine s_istore_1 (pc := 58) dX9_reads_58 (Nat.le_of_ble_eq_true rfl) rfl ?_
            refine s_iload_1 (pc := 59) dX9_reads_59 ?_
            refine s_if_eq (pc := 60) 81 dX9_reads_60 rfl (by omega) (fun h60 => ?_) (fun h60 => ?_)
            · refine s_aload_0 (pc := 81) dX9_reads_81 ?_
              refine s_dup (pc := 82) dX9_reads_82 rfl ?_
              refine gfX9_123 (pc := 83) dX9_reads_83 rfl ?_
              refine s_iload_1 (pc := 86) dX9_reads_86 ?_
              refine s_if_eq (pc := 87) 94 dX9_reads_87 rfl (by omega) (fun h87 => ?_) (fun h87 => ?_)
              · refine s_iconst_0 (pc := 94) dX9_reads_94 ?_
                refine s_iadd (pc := 95) dX9_reads_95 ?_
                refine pfX9_123 (pc := 96) dX9_reads_96 rfl ?_
                refine s_goto (pc := 99) 22 dX9_reads_99 rfl ?_
                refine s_iload_1 (pc := 22) dX9_reads_22 ?_
                refine s_if_eq (pc := 23) 102 dX9_reads_23 rfl (by omega) (fun h23 => ?_) (fun h23 => ?_)
                · refine s_iconst_m1 (pc := 102) dX9_reads_102 ?_
                  refine s_ireturn (pc := 103) dX9_reads_103 rfl ?_
                  obtain ⟨a1, a2, a3, a4, a5, a6⟩ := hR27
                  have hE := RM_of (tx := tx) (n := n) (t := t) (ν := wr ν27 123 0 (ν27 123 0 + 0)) (by rw [← he, hst, if_pos (by omega)]) (by
                    refine ⟨?_, ?_, ?_, ?_, ?_, ?_⟩
                    · rw [wr_s, if_pos rfl]; omega
                    · rw [wr_n (by decide)]; exact a2
                    · rw [wr_n (by decide)]; exact a3
                    · intro k k0 k1; rw [wr_n (by decide)]; exact a4 k k0 k1
                    · intro k k0 k1; rw [wr_n (by decide)]; exact a5 k k0 k1
                    · intro k k0 k1; rw [wr_n (by decide)]; exact a6 k k0 k1)
                  exact ⟨hE.1, (hF.tr hG27).wr (by decide), hE.2⟩
                · exact absurd h23 (by decide)
              · exact absurd h87 (by decide)
            · exact absurd h60 (by decide)
          · refine s_iconst_1 (pc := 53) dX9_reads_53 ?_
            refine s_goto (pc := 54) 58 dX9_reads_54 rfl ?_
            refine s_istore_1 (pc := 58) dX9_reads_58 (Nat.le_of_ble_eq_true rfl) rfl ?_
            refine s_iload_1 (pc := 59) dX9_reads_59 ?_
            refine s_if_eq (pc := 60) 81 dX9_reads_60 rfl (by omega) (fun h60 => ?_) (fun h60 => ?_)
            · exact absurd h60 (by decide)
            · refine s_aload_0 (pc := 63) dX9_reads_63 ?_
              refine cV0i (pc := 64) (Ky := kX9_here) dX9_reads_64 rfl lnX9_132 okX9_here ⟨9, TX9, 40, rfl, rfl⟩ ⟨Nat.le_of_ble_eq_true rfl, Nat.le_of_ble_eq_true rfl⟩ (Nat.le_of_ble_eq_true rfl) (c_X9_here (a := t.1) g43 g122 hR27.1 hn (by omega)) ?_
              rintro _ _ ⟨rfl, rfl⟩
              refine s_bipush (pc := 67) (z := 59) dX9_reads_67 rfl ?_
              refine s_icmp_eq (pc := 69) 81 dX9_reads_69 rfl (by omega) (by omega) (fun h69 => ?_) (fun h69 => ?_)
              · refine s_aload_0 (pc := 81) dX9_reads_81 ?_
                refine s_dup (pc := 82) dX9_reads_82 rfl ?_
                refine gfX9_123 (pc := 83) dX9_reads_83 rfl ?_
                refine s_iload_1 (pc := 86) dX9_reads_86 ?_
                refine s_if_eq (pc := 87) 94 dX9_reads_87 rfl (by omega) (fun h87 => ?_) (fun h87 => ?_)
                · exact absurd h87 (by decide)
                · refine s_iconst_1 (pc := 90) dX9_reads_90 ?_
                  refine s_goto (pc := 91) 95 dX9_reads_91 rfl ?_
                  refine s_iadd (pc := 95) dX9_reads_95 ?_
                  refine pfX9_123 (pc := 96) dX9_reads_96 rfl ?_
                  refine s_goto (pc := 99) 22 dX9_reads_99 rfl ?_
                  refine ih (t.1 + 1, t.2) (g - 1) _ ((hF.tr hG27).wr (by decide)) ?_ ⟨by dsimp only; omega, by dsimp only; omega, hpo.1.2.2⟩ (by dsimp only; omega) (by dsimp only; omega) (by rw [← he, hst, if_neg (by omega), if_pos (by omega)]) (by dsimp only; omega)
                  obtain ⟨a1, a2, a3, a4, a5, a6⟩ := hR27
                  refine ⟨?_, ?_, ?_, ?_, ?_, ?_⟩
                  · rw [wr_s, if_pos rfl, a1]
                  · rw [wr_n (by decide)]; exact a2
                  · rw [wr_n (by decide)]; exact a3
                  · intro k k0 k1; rw [wr_n (by decide)]; exact a4 k k0 k1
                  · intro k k0 k1; rw [wr_n (by decide)]; exact a5 k k0 k1
                  · intro k k0 k1; rw [wr_n (by decide)]; exact a6 k k0 k1
              · refine s_aload_0 (pc := 72) dX9_reads_72 ?_
                refine cV0v (pc := 73) (Ky := kX9_clears) dX9_reads_73 rfl lnX9_149 okX9_clears ⟨9, TX9, 40, rfl, rfl⟩ ⟨Nat.le_of_ble_eq_true rfl, Nat.le_of_ble_eq_true rfl⟩ (Nat.le_of_ble_eq_true rfl) (c_X9_clears) ?_
                rintro ν73 ⟨hF73, ha73, hb73, hc73⟩
                refine s_aload_0 (pc := 76) dX9_reads_76 ?_
                refine gfX9_123 (pc := 77) dX9_reads_77 rfl ?_
                refine s_ireturn (pc := 80) dX9_reads_80 rfl ?_
                have hE := RM_no (tx := tx) (n := n) (p := t.1) (by rw [← he, hst, if_neg (by omega), if_neg (by omega)]) ha73 hb73 hc73
                exact ⟨by rw [hE.1]; rw [hF73.at 123 rfl 0]; exact hr1.symm, (hF.tr hG27).tr (hF73.mono (by decide)), hE.2⟩
        · exact absurd h30 (by decide)
      · have hin := parts_in hp27 (g := g) (by omega)
        refine s_if_ne (pc := 30) 42 dX9_reads_30 rfl (by omega) (fun h30 => ?_) (fun h30 => ?_)
        · exact absurd h30 (by decide)
        · refine s_aload_0 (pc := 33) dX9_reads_33 ?_
          refine cV0v (pc := 34) (Ky := kX9_clears) dX9_reads_34 rfl lnX9_149 okX9_clears ⟨9, TX9, 40, rfl, rfl⟩ ⟨Nat.le_of_ble_eq_true rfl, Nat.le_of_ble_eq_true rfl⟩ (Nat.le_of_ble_eq_true rfl) (c_X9_clears) ?_
          rintro ν34 ⟨hF34, ha34, hb34, hc34⟩
          refine s_aload_0 (pc := 37) dX9_reads_37 ?_
          refine gfX9_123 (pc := 38) dX9_reads_38 rfl ?_
          refine s_ireturn (pc := 41) dX9_reads_41 rfl ?_
          have hE := RM_no (tx := tx) (n := n) (p := p) (by rw [← he, hin]) ha34 hb34 hc34
          exact ⟨by rw [hE.1]; rw [hF34.at 123 rfl 0]; exact ha27.symm, (hF.tr hG27).tr (hF34.mono (by decide)), hE.2⟩
theorem c_X9_reads {tx : Int → Int} {n : Int} {μ : Mem} (e43 : μ 43 = tx) (e122 : μ 122 0 = n) (hn : 0 ≤ n ∧ n ≤ 60) (ht : ∀ k : Int, 0 ≤ k → k < n → 0 ≤ tx k ∧ tx k ≤ 255) : Mc kX9_reads [.inr (.inr 9)] μ (pI (fun z ν => pFa tx n = z ∧ Fr [44, 45, 46, 123, 124, 125] μ ν ∧ RM tx n ν)) := by
  refine Mc_of (by decide +kernel) (fun _ => Nat.le_of_ble_eq_true rfl) ?_
  show AW kX9_reads 0 [some (.inr (.inr 9)), none] [] μ _
  refine s_aload_0 (pc := 0) dX9_reads_0 ?_
  refine s_iconst_0 (pc := 1) dX9_reads_1 ?_
  refine pfX9_123 (pc := 2) dX9_reads_2 rfl ?_
  refine s_aload_0 (pc := 5) dX9_reads_5 ?_
  refine cV0v (pc := 6) (Ky := kX9_clears) dX9_reads_6 rfl lnX9_149 okX9_clears ⟨9, TX9, 40, rfl, rfl⟩ ⟨Nat.le_of_ble_eq_true rfl, Nat.le_of_ble_eq_true rfl⟩ (Nat.le_of_ble_eq_true rfl) (c_X9_clears) ?_
  rintro ν6 ⟨hF6, ha6, hb6, hc6⟩
  have g123 : ν6 123 0 = 0 := by rw [hF6.at 123 rfl 0, wr_s, if_pos rfl]
  have g43 : ν6 43 = tx := by rw [hF6.fn 43 rfl, wr_nc (by decide)]; exact e43
  have g122 : ν6 122 0 = n := by rw [hF6.at 122 rfl 0, wr_n (by decide)]; exact e122
  have hFF : Fr [44, 45, 46, 123, 124, 125] μ ν6 := ((Fr.rf (F := [44, 45, 46, 123, 124, 125])).wr (by decide)).tr (hF6.mono (by decide))
  have hRP : RP s0 ν6 := by
    refine ⟨g123, ha6, hb6, hc6, fun k k0 k1 => ?_, fun k k0 k1 => ?_⟩
    · dsimp only [s0] at k1; omega
    · dsimp only [s0] at k1; omega
  refine s_aload_0 (pc := 9) dX9_reads_9 ?_
  refine gfX9_120 (pc := 10) dX9_reads_10 rfl ?_
  refine s_if_le (pc := 13) 20 dX9_reads_13 rfl (by omega) (fun h13 => ?_) (fun h13 => ?_)
  · refine s_iconst_0 (pc := 20) dX9_reads_20 ?_
    refine s_istore_1 (pc := 21) dX9_reads_21 (Nat.le_of_ble_eq_true rfl) rfl ?_
    refine s_iload_1 (pc := 22) dX9_reads_22 ?_
    refine s_if_eq (pc := 23) 102 dX9_reads_23 rfl (by omega) (fun h23 => ?_) (fun h23 => ?_)
    · refine s_iconst_m1 (pc := 102) dX9_reads_102 ?_
      refine s_ireturn (pc := 103) dX9_reads_103 rfl ?_
      have hE := RM_of (tx := tx) (n := n) (t := s0) (by unfold resF; rw [if_pos (by omega)]) hRP
      exact ⟨hE.1, hFF, hE.2⟩
    · exact absurd h23 (by decide)
  · refine s_iconst_1 (pc := 16) dX9_reads_16 ?_
    refine s_goto (pc := 17) 21 dX9_reads_17 rfl ?_
    refine s_istore_1 (pc := 21) dX9_reads_21 (Nat.le_of_ble_eq_true rfl) rfl ?_
    exact lp_X9_reads e43 e122 hn ht 62 s0 60 ν6 hFF hRP (s0_ok hn.1) (by dsimp only [s0]; omega) (by dsimp only [s0]; omega) (by unfold resF; rw [if_neg (by omega)]) (by dsimp only [s0]; omega)
