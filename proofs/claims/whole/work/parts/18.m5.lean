theorem lp_X9_readsPerson {tx : Int → Int} {n a pe : Int} {μ : Mem} (e43 : μ 43 = tx) (e122 : μ 122 0 = n) (e124 : μ 124 0 = pe) (hn : 0 ≤ n ∧ n ≤ 60) (ha : 0 ≤ a ∧ a ≤ 90) (hpe : 0 ≤ pe ∧ pe < 4) (ht : ∀ k : Int, 0 ≤ k → k < n → 0 ≤ tx k ∧ tx k ≤ 255) : ∀ (f : Nat) (k : Int) (ν : Mem), (0 ≤ k) → (k ≤ 4) → (Fr [123, 44] μ ν) → (ν 123 0 = a + 1 + k) → (∀ j : Int, 0 ≤ j → j < k → fg tx n (a + 1 + j) 9) → (∀ j : Int, ν 44 j = if 4 * pe ≤ j ∧ j < 4 * pe + k then hr tx n (a + 1 + (j - 4 * pe)) - 48 else μ 44 j) → 4 - k < (f : Int) → AW kX9_readsPerson 22 [some (.inr (.inr 9)), some (.inl k), none] [] ν (pI (fun z ν => (pe = 4 ∧ 0 = z ∧ μ = ν) ∨ (pe ≠ 4 ∧ f4 tx n (a + 1) = 4 ∧ 1 = z ∧ Fr [123, 124, 44] μ ν ∧ ν 123 0 = a + 5 ∧ ν 124 0 = pe + 1 ∧ ∀ j, ν 44 j = up4 (μ 44) (4 * pe) tx n (a + 1) j) ∨ (pe ≠ 4 ∧ f4 tx n (a + 1) < 4 ∧ 0 = z ∧ Fr [123, 124, 44] μ ν ∧ ν 123 0 = a + 1 + f4 tx n (a + 1)))) := by
  intro f
  induction f with
  | zero =>
    intro k ν h0 h1 hF e3 hv hw hm
    exfalso; omega
  | succ f ih =>
    intro k ν h0 h1 hF e3 hv hw hm
    have f43 : ν 43 = tx := (hF.fn 43 rfl).trans e43
    have f122 : ν 122 0 = n := (hF.at 122 rfl 0).trans e122
    have f124 : ν 124 0 = pe := (hF.at 124 rfl 0).trans e124
    refine s_iload_1 (pc := 22) dX9_readsPerson_22 ?_
    refine s_iconst_4 (pc := 23) dX9_readsPerson_23 ?_
    refine s_icmp_ge (pc := 24) 60 dX9_readsPerson_24 rfl (by omega) (by omega) (fun h24 => ?_) (fun h24 => ?_)
    · refine s_aload_0 (pc := 60) dX9_readsPerson_60 ?_
      refine s_dup (pc := 61) dX9_readsPerson_61 rfl ?_
      refine gfX9_126 (pc := 62) dX9_readsPerson_62 rfl ?_
      refine s_iconst_1 (pc := 65) dX9_readsPerson_65 ?_
      refine s_iadd (pc := 66) dX9_readsPerson_66 ?_
      refine pfX9_126 (pc := 67) dX9_readsPerson_67 rfl ?_
      refine s_iconst_1 (pc := 70) dX9_readsPerson_70 ?_
      refine s_zreturn (pc := 71) dX9_readsPerson_71 rfl (by omega) ?_
      cases (show k = 4 by omega)
      refine Or.inr (Or.inl ⟨by omega, f4_all hv, rfl, (hF.mono (E := [123, 124, 44]) (by decide)).wr (by decide), ?_, ?_, fun j => ?_⟩)
      · simp (decide := true) only [wr_s, wr_n, wa_s, wa_n, mg_i, mg_o, if_true, eq_self, reduceIte]; omega
      · simp (decide := true) only [wr_s, wr_n, wa_s, wa_n, mg_i, mg_o, if_true, eq_self, reduceIte]; omega
      · simp (decide := true) only [wr_s, wr_n, wa_s, wa_n, mg_i, mg_o, if_true, eq_self, reduceIte]
        rw [hw]; rfl
    · refine s_aload_0 (pc := 27) dX9_readsPerson_27 ?_
      refine s_bipush (pc := 28) (z := 9) dX9_readsPerson_28 rfl ?_
      refine cV1i (pc := 30) (Ky := kX9_figure) dX9_readsPerson_30 rfl lnX9_136 okX9_figure ⟨9, TX9, 40, rfl, rfl⟩ ⟨Nat.le_of_ble_eq_true rfl, Nat.le_of_ble_eq_true rfl⟩ (Nat.le_of_ble_eq_true rfl) (c_X9_figure f43 f122 e3 hn (by omega) ht (by omega)) ?_
      rintro _ _ (⟨c30, rfl, rfl⟩ | ⟨c30, rfl, rfl⟩)
      · refine s_istore_2 (pc := 33) dX9_readsPerson_33 (Nat.le_of_ble_eq_true rfl) rfl ?_
        refine s_iload_2 (pc := 34) dX9_readsPerson_34 ?_
        refine s_if_ge (pc := 35) 40 dX9_readsPerson_35 rfl (by omega) (fun h35 => ?_) (fun h35 => ?_)
        · refine s_aload_0 (pc := 40) dX9_readsPerson_40 ?_
          refine gfX9_25 (pc := 41) dX9_readsPerson_41 rfl ?_
          refine s_iconst_4 (pc := 44) dX9_readsPerson_44 ?_
          refine s_aload_0 (pc := 45) dX9_readsPerson_45 ?_
          refine gfX9_126 (pc := 46) dX9_readsPerson_46 rfl ?_
          refine s_valI (y := pe) (by simp (decide := true) only [wr_s, wr_n, wa_s, wa_n, mg_i, mg_o, if_true, eq_self, reduceIte]; omega) ?_
          refine s_imul (pc := 49) dX9_readsPerson_49 ?_
          refine s_iload_1 (pc := 50) dX9_readsPerson_50 ?_
          refine s_iadd (pc := 51) dX9_readsPerson_51 ?_
          refine s_iload_2 (pc := 52) dX9_readsPerson_52 ?_
          refine z_iastore (pc := 53) dX9_readsPerson_53 ly_44 ip_44 (by omega) (by omega) ?_
          refine s_iinc_1 (pc := 54) dX9_readsPerson_54 (Nat.le_of_ble_eq_true rfl) rfl ?_
          refine s_goto (pc := 57) 22 dX9_readsPerson_57 rfl ?_
          refine s_le ?_ (ih (k + 1) _ (by omega) (by omega) ?_ ?_ ?_ ?_ (by omega))
          · exact ⟨Or.inr rfl, Or.inr rfl, Or.inl rfl, trivial⟩
          · exact (hF.wr (by decide)).wr (by decide)
          · simp (decide := true) only [wr_s, wr_n, wa_s, wa_n, mg_i, mg_o, if_true, eq_self, reduceIte]; omega
          · intro j j0 j1
            by_cases hj : j = k
            · subst hj; exact ⟨by omega, by omega⟩
            · exact hv j j0 (by omega)
          · intro j
            simp (decide := true) only [wr_s, wr_n, wa_s, wa_n, mg_i, mg_o, if_true, eq_self, reduceIte]
            by_cases hj : j = 4 * pe + k
            · rw [if_pos hj, if_pos (by omega), show a + 1 + (j - 4 * pe) = a + 1 + k by omega]
            · rw [if_neg hj, hw]
              by_cases hj2 : 4 * pe ≤ j ∧ j < 4 * pe + k
              · rw [if_pos hj2, if_pos (by omega)]
              · rw [if_neg hj2, if_neg (by omega)]
        · refine s_iconst_0 (pc := 38) dX9_readsPerson_38 ?_
          refine s_zreturn (pc := 39) dX9_readsPerson_39 rfl (by omega) ?_
          first
            | (exfalso; omega; done)
            | (refine Or.inr (Or.inr ⟨by omega, ?_, rfl, hF.mono (E := [123, 124, 44]) (by decide), ?_⟩)
               · rw [f4_lt h0 (by omega) hv (fun q => by omega)]; omega
               · rw [f4_lt h0 (by omega) hv (fun q => by omega), e3])
      · refine s_istore_2 (pc := 33) dX9_readsPerson_33 (Nat.le_of_ble_eq_true rfl) rfl ?_
        refine s_iload_2 (pc := 34) dX9_readsPerson_34 ?_
        refine s_if_ge (pc := 35) 40 dX9_readsPerson_35 rfl (by omega) (fun h35 => ?_) (fun h35 => ?_)
        · exact absurd h35 (by decide)
        · refine s_iconst_0 (pc := 38) dX9_readsPerson_38 ?_
          refine s_zreturn (pc := 39) dX9_readsPerson_39 rfl (by omega) ?_
          first
            | (exfalso; omega; done)
            | (refine Or.inr (Or.inr ⟨by omega, ?_, rfl, hF.mono (E := [123, 124, 44]) (by decide), ?_⟩)
               · rw [f4_lt h0 (by omega) hv (fun q => by omega)]; omega
               · rw [f4_lt h0 (by omega) hv (fun q => by omega), e3])
theorem c_X9_readsPerson {tx : Int → Int} {n a pe : Int} {μ : Mem} (e43 : μ 43 = tx) (e122 : μ 122 0 = n) (e123 : μ 123 0 = a) (e124 : μ 124 0 = pe) (hn : 0 ≤ n ∧ n ≤ 60) (ha : 0 ≤ a ∧ a ≤ 90) (hpe : 0 ≤ pe ∧ pe ≤ 4) (ht : ∀ k : Int, 0 ≤ k → k < n → 0 ≤ tx k ∧ tx k ≤ 255) : Mc kX9_readsPerson [.inr (.inr 9)] μ (pI (fun z ν => (pe = 4 ∧ 0 = z ∧ μ = ν) ∨ (pe ≠ 4 ∧ f4 tx n (a + 1) = 4 ∧ 1 = z ∧ Fr [123, 124, 44] μ ν ∧ ν 123 0 = a + 5 ∧ ν 124 0 = pe + 1 ∧ ∀ j, ν 44 j = up4 (μ 44) (4 * pe) tx n (a + 1) j) ∨ (pe ≠ 4 ∧ f4 tx n (a + 1) < 4 ∧ 0 = z ∧ Fr [123, 124, 44] μ ν ∧ ν 123 0 = a + 1 + f4 tx n (a + 1)))) := by
  refine Mc_of (by decide +kernel) (fun _ => Nat.le_of_ble_eq_true rfl) ?_
  show AW kX9_readsPerson 0 [some (.inr (.inr 9)), none, none] [] μ _
  refine s_aload_0 (pc := 0) dX9_readsPerson_0 ?_
  refine gfX9_126 (pc := 1) dX9_readsPerson_1 rfl ?_
  refine s_iconst_4 (pc := 4) dX9_readsPerson_4 ?_
  refine s_icmp_ne (pc := 5) 10 dX9_readsPerson_5 rfl (by omega) (by omega) (fun h5 => ?_) (fun h5 => ?_)
  · refine s_aload_0 (pc := 10) dX9_readsPerson_10 ?_
    refine s_dup (pc := 11) dX9_readsPerson_11 rfl ?_
    refine gfX9_123 (pc := 12) dX9_readsPerson_12 rfl ?_
    refine s_iconst_1 (pc := 15) dX9_readsPerson_15 ?_
    refine s_iadd (pc := 16) dX9_readsPerson_16 ?_
    refine pfX9_123 (pc := 17) dX9_readsPerson_17 rfl ?_
    refine s_iconst_0 (pc := 20) dX9_readsPerson_20 ?_
    refine s_istore_1 (pc := 21) dX9_readsPerson_21 (Nat.le_of_ble_eq_true rfl) rfl ?_
    refine lp_X9_readsPerson e43 e122 e124 hn ha (by omega) ht 5 0 _ (by omega) (by omega) ?_ ?_ ?_ ?_ (by omega)
    · exact Fr.rf.wr (by decide)
    · simp (decide := true) only [wr_s, wr_n, wa_s, wa_n, mg_i, mg_o, if_true, eq_self, reduceIte]; omega
    · intro j j0 j1; omega
    · intro j
      rw [if_neg (by omega)]
      simp (decide := true) only [wr_s, wr_n, wa_s, wa_n, mg_i, mg_o, if_true, eq_self, reduceIte]
  · refine s_iconst_0 (pc := 8) dX9_readsPerson_8 ?_
    refine s_zreturn (pc := 9) dX9_readsPerson_9 rfl (by omega) ?_
    exact Or.inl ⟨by omega, rfl, rfl⟩
