theorem c_X9_readsTale {tx : Int → Int} {n a ta : Int} {μ : Mem} (e43 : μ 43 = tx) (e122 : μ 122 0 = n) (e123 : μ 123 0 = a) (e125 : μ 125 0 = ta) (hn : 0 ≤ n ∧ n ≤ 60) (ha : 0 ≤ a ∧ a ≤ 90) (hta : 0 ≤ ta ∧ ta ≤ 4) (ht : ∀ k : Int, 0 ≤ k → k < n → 0 ≤ tx k ∧ tx k ≤ 255) : Mc kX9_readsTale [.inr (.inr 9)] μ (pI (fun z ν => (ta = 4 ∧ 0 = z ∧ μ = ν) ∨ ((ta ≠ 4 ∧ fg tx n (a + 1) 9) ∧ 1 = z ∧ Fr [123, 125, 45] μ ν ∧ ν 123 0 = a + 2 ∧ ν 125 0 = ta + 1 ∧ ∀ j, ν 45 j = upF (μ 45) ta (hr tx n (a + 1) - 48) j) ∨ ((ta ≠ 4 ∧ ¬ fg tx n (a + 1) 9) ∧ 0 = z ∧ Fr [123, 125, 45] μ ν ∧ ν 123 0 = a + 1))) := by
  refine Mc_of (by decide +kernel) (fun _ => Nat.le_of_ble_eq_true rfl) ?_
  show AW kX9_readsTale 0 [some (.inr (.inr 9)), none] [] μ _
  refine s_aload_0 (pc := 0) dX9_readsTale_0 ?_
  refine gfX9_129 (pc := 1) dX9_readsTale_1 rfl ?_
  refine s_iconst_4 (pc := 4) dX9_readsTale_4 ?_
  refine s_icmp_ne (pc := 5) 10 dX9_readsTale_5 rfl (by omega) (by omega) (fun h5 => ?_) (fun h5 => ?_)
  · refine s_aload_0 (pc := 10) dX9_readsTale_10 ?_
    refine s_dup (pc := 11) dX9_readsTale_11 rfl ?_
    refine gfX9_123 (pc := 12) dX9_readsTale_12 rfl ?_
    refine s_iconst_1 (pc := 15) dX9_readsTale_15 ?_
    refine s_iadd (pc := 16) dX9_readsTale_16 ?_
    refine pfX9_123 (pc := 17) dX9_readsTale_17 rfl ?_
    refine s_aload_0 (pc := 20) dX9_readsTale_20 ?_
    refine s_bipush (pc := 21) (z := 9) dX9_readsTale_21 rfl ?_
    refine cV1i (pc := 23) (Ky := kX9_figure) dX9_readsTale_23 rfl lnX9_136 okX9_figure ⟨9, TX9, 40, rfl, rfl⟩ ⟨Nat.le_of_ble_eq_true rfl, Nat.le_of_ble_eq_true rfl⟩ (Nat.le_of_ble_eq_true rfl) (c_X9_figure (tx := tx) (n := n) (a := a + 1) (by rw [wr_nc (by decide)]; exact e43) (by rw [wr_n (by decide)]; exact e122) (by rw [wr_s, if_pos rfl, e123]) hn (by omega) ht (by omega)) ?_
    rintro _ _ (⟨c23, rfl, rfl⟩ | ⟨c23, rfl, rfl⟩)
    · refine s_istore_1 (pc := 26) dX9_readsTale_26 (Nat.le_of_ble_eq_true rfl) rfl ?_
      refine s_iload_1 (pc := 27) dX9_readsTale_27 ?_
      refine s_if_ge (pc := 28) 33 dX9_readsTale_28 rfl (by omega) (fun h28 => ?_) (fun h28 => ?_)
      · refine s_aload_0 (pc := 33) dX9_readsTale_33 ?_
        refine gfX9_28 (pc := 34) dX9_readsTale_34 rfl ?_
        refine s_aload_0 (pc := 37) dX9_readsTale_37 ?_
        refine gfX9_129 (pc := 38) dX9_readsTale_38 rfl ?_
        refine s_valI (y := ta) (by simp (decide := true) only [wr_s, wr_n, wa_s, wa_n, mg_i, mg_o, if_true, eq_self, reduceIte]; omega) ?_
        refine s_iload_1 (pc := 41) dX9_readsTale_41 ?_
        refine z_iastore (pc := 42) dX9_readsTale_42 ly_45 ip_45 (by omega) (by omega) ?_
        refine s_aload_0 (pc := 43) dX9_readsTale_43 ?_
        refine s_dup (pc := 44) dX9_readsTale_44 rfl ?_
        refine gfX9_129 (pc := 45) dX9_readsTale_45 rfl ?_
        refine s_valI (y := ta) (by simp (decide := true) only [wr_s, wr_n, wa_s, wa_n, mg_i, mg_o, if_true, eq_self, reduceIte]; omega) ?_
        refine s_iconst_1 (pc := 48) dX9_readsTale_48 ?_
        refine s_iadd (pc := 49) dX9_readsTale_49 ?_
        refine pfX9_129 (pc := 50) dX9_readsTale_50 rfl ?_
        refine s_iconst_1 (pc := 53) dX9_readsTale_53 ?_
        refine s_zreturn (pc := 54) dX9_readsTale_54 rfl (by omega) ?_
        first
          | (exfalso; omega; done)
          | (refine Or.inr (Or.inl ⟨⟨by omega, by omega⟩, rfl, ((((Fr.rf (F := [123, 125, 45])).wr (by decide)).wr (by decide)).wr (by decide)).wr (by decide), ?_, ?_, fun j => ?_⟩)
             · simp (decide := true) only [wr_s, wr_n, wa_s, wa_n, mg_i, mg_o, if_true, eq_self, reduceIte]; omega
             · simp (decide := true) only [wr_s, wr_n, wa_s, wa_n, mg_i, mg_o, if_true, eq_self, reduceIte]
             · simp (decide := true) only [wr_s, wr_n, wa_s, wa_n, mg_i, mg_o, if_true, eq_self, reduceIte]; rfl)
      · refine s_iconst_0 (pc := 31) dX9_readsTale_31 ?_
        refine s_zreturn (pc := 32) dX9_readsTale_32 rfl (by omega) ?_
        first
          | (exfalso; omega; done)
          | (refine Or.inr (Or.inr ⟨⟨by omega, fun q => by omega⟩, rfl, Fr.rf.wr (by decide), ?_⟩)
             rw [wr_s, if_pos rfl]; omega)
    · refine s_istore_1 (pc := 26) dX9_readsTale_26 (Nat.le_of_ble_eq_true rfl) rfl ?_
      refine s_iload_1 (pc := 27) dX9_readsTale_27 ?_
      refine s_if_ge (pc := 28) 33 dX9_readsTale_28 rfl (by omega) (fun h28 => ?_) (fun h28 => ?_)
      · exact absurd h28 (by decide)
      · refine s_iconst_0 (pc := 31) dX9_readsTale_31 ?_
        refine s_zreturn (pc := 32) dX9_readsTale_32 rfl (by omega) ?_
        first
          | (exfalso; omega; done)
          | (refine Or.inr (Or.inr ⟨⟨by omega, fun q => by omega⟩, rfl, Fr.rf.wr (by decide), ?_⟩)
             rw [wr_s, if_pos rfl]; omega)
  · refine s_iconst_0 (pc := 8) dX9_readsTale_8 ?_
    refine s_zreturn (pc := 9) dX9_readsTale_9 rfl (by omega) ?_
    exact Or.inl ⟨by omega, rfl, rfl⟩
theorem c_X9_readsLaw {tx : Int → Int} {n a w hi : Int} {μ : Mem} (e43 : μ 43 = tx) (e122 : μ 122 0 = n) (e123 : μ 123 0 = a) (hn : 0 ≤ n ∧ n ≤ 60) (ha : 0 ≤ a ∧ a ≤ 90) (ht : ∀ k : Int, 0 ≤ k → k < n → 0 ≤ tx k ∧ tx k ≤ 255) (hw : w = 0 ∧ hi = 2 ∨ w = 1 ∧ hi = 2 ∨ w = 2 ∧ hi = 3) : Mc kX9_readsLaw [.inr (.inr 9), .inl w] μ (pI (fun z ν => (fg tx n (a + 1) hi ∧ 1 = z ∧ Fr [123, 46] μ ν ∧ ν 123 0 = a + 2 ∧ ∀ j, ν 46 j = upF (μ 46) w (hr tx n (a + 1) - 48) j) ∨ (¬ fg tx n (a + 1) hi ∧ 0 = z ∧ Fr [123, 46] μ ν ∧ ν 123 0 = a + 1))) := by
  refine Mc_of (by decide +kernel) (fun _ => Nat.le_of_ble_eq_true rfl) ?_
  show AW kX9_readsLaw 0 [some (.inr (.inr 9)), some (.inl w), none] [] μ _
  refine s_aload_0 (pc := 0) dX9_readsLaw_0 ?_
  refine s_dup (pc := 1) dX9_readsLaw_1 rfl ?_
  refine gfX9_123 (pc := 2) dX9_readsLaw_2 rfl ?_
  refine s_iconst_1 (pc := 5) dX9_readsLaw_5 ?_
  refine s_iadd (pc := 6) dX9_readsLaw_6 ?_
  refine pfX9_123 (pc := 7) dX9_readsLaw_7 rfl ?_
  refine s_aload_0 (pc := 10) dX9_readsLaw_10 ?_
  refine s_iload_1 (pc := 11) dX9_readsLaw_11 ?_
  refine s_iconst_2 (pc := 12) dX9_readsLaw_12 ?_
  refine s_icmp_ne (pc := 13) 20 dX9_readsLaw_13 rfl (by omega) (by omega) (fun h13 => ?_) (fun h13 => ?_)
  · refine s_iconst_2 (pc := 20) dX9_readsLaw_20 ?_
    refine s_valI (y := hi) (by omega) ?_
    refine cV1i (pc := 21) (Ky := kX9_figure) dX9_readsLaw_21 rfl lnX9_136 okX9_figure ⟨9, TX9, 40, rfl, rfl⟩ ⟨Nat.le_of_ble_eq_true rfl, Nat.le_of_ble_eq_true rfl⟩ (Nat.le_of_ble_eq_true rfl) (c_X9_figure (tx := tx) (n := n) (a := a + 1) (hi := hi) (by rw [wr_nc (by decide)]; exact e43) (by rw [wr_n (by decide)]; exact e122) (by rw [wr_s, if_pos rfl, e123]) hn (by omega) ht (by omega)) ?_
    rintro _ _ (⟨c21, rfl, rfl⟩ | ⟨c21, rfl, rfl⟩)
    · refine s_istore_2 (pc := 24) dX9_readsLaw_24 (Nat.le_of_ble_eq_true rfl) rfl ?_
      refine s_iload_2 (pc := 25) dX9_readsLaw_25 ?_
      refine s_if_ge (pc := 26) 31 dX9_readsLaw_26 rfl (by omega) (fun h26 => ?_) (fun h26 => ?_)
      · refine s_aload_0 (pc := 31) dX9_readsLaw_31 ?_
        refine gfX9_31 (pc := 32) dX9_readsLaw_32 rfl ?_
        refine s_iload_1 (pc := 35) dX9_readsLaw_35 ?_
        refine s_iload_2 (pc := 36) dX9_readsLaw_36 ?_
        refine z_iastore (pc := 37) dX9_readsLaw_37 ly_46 ip_46 (by omega) (by omega) ?_
        refine s_iconst_1 (pc := 38) dX9_readsLaw_38 ?_
        refine s_zreturn (pc := 39) dX9_readsLaw_39 rfl (by omega) ?_
        first
          | (exfalso; omega; done)
          | (refine Or.inl ⟨by omega, rfl, (((Fr.rf (F := [123, 46])).wr (by decide)).wr (by decide)).wr (by decide), ?_, fun j => ?_⟩
             · simp (decide := true) only [wr_s, wr_n, wa_s, wa_n, mg_i, mg_o, if_true, eq_self, reduceIte]; omega
             · simp (decide := true) only [wr_s, wr_n, wa_s, wa_n, mg_i, mg_o, if_true, eq_self, reduceIte]; rfl)
      · refine s_iconst_0 (pc := 29) dX9_readsLaw_29 ?_
        refine s_zreturn (pc := 30) dX9_readsLaw_30 rfl (by omega) ?_
        first
          | (exfalso; omega; done)
          | (refine Or.inr ⟨fun q => by omega, rfl, Fr.rf.wr (by decide), ?_⟩
             rw [wr_s, if_pos rfl]; omega)
    · refine s_istore_2 (pc := 24) dX9_readsLaw_24 (Nat.le_of_ble_eq_true rfl) rfl ?_
      refine s_iload_2 (pc := 25) dX9_readsLaw_25 ?_
      refine s_if_ge (pc := 26) 31 dX9_readsLaw_26 rfl (by omega) (fun h26 => ?_) (fun h26 => ?_)
      · exact absurd h26 (by decide)
      · refine s_iconst_0 (pc := 29) dX9_readsLaw_29 ?_
        refine s_zreturn (pc := 30) dX9_readsLaw_30 rfl (by omega) ?_
        first
          | (exfalso; omega; done)
          | (refine Or.inr ⟨fun q => by omega, rfl, Fr.rf.wr (by decide), ?_⟩
             rw [wr_s, if_pos rfl]; omega)
  · refine s_iconst_3 (pc := 16) dX9_readsLaw_16 ?_
    refine s_goto (pc := 17) 21 dX9_readsLaw_17 rfl ?_
    refine s_valI (y := hi) (by omega) ?_
    refine cV1i (pc := 21) (Ky := kX9_figure) dX9_readsLaw_21 rfl lnX9_136 okX9_figure ⟨9, TX9, 40, rfl, rfl⟩ ⟨Nat.le_of_ble_eq_true rfl, Nat.le_of_ble_eq_true rfl⟩ (Nat.le_of_ble_eq_true rfl) (c_X9_figure (tx := tx) (n := n) (a := a + 1) (hi := hi) (by rw [wr_nc (by decide)]; exact e43) (by rw [wr_n (by decide)]; exact e122) (by rw [wr_s, if_pos rfl, e123]) hn (by omega) ht (by omega)) ?_
    rintro _ _ (⟨c21, rfl, rfl⟩ | ⟨c21, rfl, rfl⟩)
    · refine s_istore_2 (pc := 24) dX9_readsLaw_24 (Nat.le_of_ble_eq_true rfl) rfl ?_
      refine s_iload_2 (pc := 25) dX9_readsLaw_25 ?_
      refine s_if_ge (pc := 26) 31 dX9_readsLaw_26 rfl (by omega) (fun h26 => ?_) (fun h26 => ?_)
      · refine s_aload_0 (pc := 31) dX9_readsLaw_31 ?_
        refine gfX9_31 (pc := 32) dX9_readsLaw_32 rfl ?_
        refine s_iload_1 (pc := 35) dX9_readsLaw_35 ?_
        refine s_iload_2 (pc := 36) dX9_readsLaw_36 ?_
        refine z_iastore (pc := 37) dX9_readsLaw_37 ly_46 ip_46 (by omega) (by omega) ?_
        refine s_iconst_1 (pc := 38) dX9_readsLaw_38 ?_
        refine s_zreturn (pc := 39) dX9_readsLaw_39 rfl (by omega) ?_
        first
          | (exfalso; omega; done)
          | (refine Or.inl ⟨by omega, rfl, (((Fr.rf (F := [123, 46])).wr (by decide)).wr (by decide)).wr (by decide), ?_, fun j => ?_⟩
             · simp (decide := true) only [wr_s, wr_n, wa_s, wa_n, mg_i, mg_o, if_true, eq_self, reduceIte]; omega
             · simp (decide := true) only [wr_s, wr_n, wa_s, wa_n, mg_i, mg_o, if_true, eq_self, reduceIte]; rfl)
      · refine s_iconst_0 (pc := 29) dX9_readsLaw_29 ?_
        refine s_zreturn (pc := 30) dX9_readsLaw_30 rfl (by omega) ?_
        first
          | (exfalso; omega; done)
          | (refine Or.inr ⟨fun q => by omega, rfl, Fr.rf.wr (by decide), ?_⟩
             rw [wr_s, if_pos rfl]; omega)
    · refine s_istore_2 (pc := 24) dX9_readsLaw_24 (Nat.le_of_ble_eq_true rfl) rfl ?_
      refine s_iload_2 (pc := 25) dX9_readsLaw_25 ?_
      refine s_if_ge (pc := 26) 31 dX9_readsLaw_26 rfl (by omega) (fun h26 => ?_) (fun h26 => ?_)
      · exact absurd h26 (by decide)
      · refine s_iconst_0 (pc := 29) dX9_readsLaw_29 ?_
        refine s_zreturn (pc := 30) dX9_readsLaw_30 rfl (by omega) ?_
        first
          | (exfalso; omega; done)
          | (refine Or.inr ⟨fun q => by omega, rfl, Fr.rf.wr (by decide), ?_⟩
             rw [wr_s, if_pos rfl]; omega)
