theorem part_p {tx : Int → Int} {n z : Int} {s : PS} {μ ν : Mem} (h : hr tx n s.1 = 112) (hR : RP s μ) (hq : (s.2.1 = 4 ∧ 0 = z ∧ μ = ν) ∨ (s.2.1 ≠ 4 ∧ f4 tx n (s.1 + 1) = 4 ∧ 1 = z ∧ Fr [123, 124, 44] μ ν ∧ ν 123 0 = s.1 + 5 ∧ ν 124 0 = s.2.1 + 1 ∧ ∀ j, ν 44 j = up4 (μ 44) (4 * s.2.1) tx n (s.1 + 1) j) ∨ (s.2.1 ≠ 4 ∧ f4 tx n (s.1 + 1) < 4 ∧ 0 = z ∧ Fr [123, 124, 44] μ ν ∧ ν 123 0 = s.1 + 1 + f4 tx n (s.1 + 1))) : (∃ t, partF tx n s = .inr t ∧ 1 = z ∧ RP t ν ∧ Fr [44, 45, 46, 123, 124, 125] μ ν) ∨ (∃ p, partF tx n s = .inl p ∧ 0 = z ∧ ν 123 0 = p ∧ Fr [44, 45, 46, 123, 124, 125] μ ν) := by
  obtain ⟨e123, e124, e125, q46, q44, q45⟩ := hR
  have hp : partF tx n s = personF tx n s := by unfold partF; rw [if_pos h]
  rcases hq with ⟨h1, h2, rfl⟩ | ⟨h1, h2, h3, hF, h4, h5, h6⟩ | ⟨h1, h2, h3, hF, h4⟩
  · exact Or.inr ⟨s.1, by rw [hp, personF, if_pos h1], h2, e123, Fr.rf⟩
  · refine Or.inl ⟨(s.1 + 5, s.2.1 + 1, s.2.2.1, s.2.2.2.1, up4 s.2.2.2.2.1 (4 * s.2.1) tx n (s.1 + 1), s.2.2.2.2.2), by rw [hp, personF, if_neg h1, if_pos h2], h3, ⟨h4, h5, ?_, ?_, ?_, ?_⟩, hF.mono (by decide)⟩
    · exact (hF.at 125 rfl 0).trans e125
    · intro k k0 k1; rw [hF.at 46 rfl k]; exact q46 k k0 k1
    · intro k k0 k1
      dsimp only at k1 ⊢
      rw [h6 k]
      unfold up4
      by_cases hk : 4 * s.2.1 ≤ k ∧ k < 4 * s.2.1 + 4
      · rw [if_pos hk, if_pos hk]
      · rw [if_neg hk, if_neg hk]; exact q44 k k0 (by omega)
    · intro k k0 k1; rw [hF.at 45 rfl k]; exact q45 k k0 k1
  · exact Or.inr ⟨_, by rw [hp, personF, if_neg h1, if_neg (by omega)], h3, h4, hF.mono (by decide)⟩
theorem part_t {tx : Int → Int} {n z : Int} {s : PS} {μ ν : Mem} (h : hr tx n s.1 = 116) (hR : RP s μ) (hq : (s.2.2.1 = 4 ∧ 0 = z ∧ μ = ν) ∨ ((s.2.2.1 ≠ 4 ∧ fg tx n (s.1 + 1) 9) ∧ 1 = z ∧ Fr [123, 125, 45] μ ν ∧ ν 123 0 = s.1 + 2 ∧ ν 125 0 = s.2.2.1 + 1 ∧ ∀ j, ν 45 j = upF (μ 45) s.2.2.1 (hr tx n (s.1 + 1) - 48) j) ∨ ((s.2.2.1 ≠ 4 ∧ ¬ fg tx n (s.1 + 1) 9) ∧ 0 = z ∧ Fr [123, 125, 45] μ ν ∧ ν 123 0 = s.1 + 1)) : (∃ t, partF tx n s = .inr t ∧ 1 = z ∧ RP t ν ∧ Fr [44, 45, 46, 123, 124, 125] μ ν) ∨ (∃ p, partF tx n s = .inl p ∧ 0 = z ∧ ν 123 0 = p ∧ Fr [44, 45, 46, 123, 124, 125] μ ν) := by
  obtain ⟨e123, e124, e125, q46, q44, q45⟩ := hR
  have hp : partF tx n s = taleF tx n s := by unfold partF; rw [if_neg (by omega), if_pos h]
  rcases hq with ⟨h1, h2, rfl⟩ | ⟨⟨h1, h2⟩, h3, hF, h4, h5, h6⟩ | ⟨⟨h1, h2⟩, h3, hF, h4⟩
  · exact Or.inr ⟨s.1, by rw [hp, taleF, if_pos h1], h2, e123, Fr.rf⟩
  · refine Or.inl ⟨(s.1 + 2, s.2.1, s.2.2.1 + 1, s.2.2.2.1, s.2.2.2.2.1, upF s.2.2.2.2.2 s.2.2.1 (hr tx n (s.1 + 1) - 48)), by rw [hp, taleF, if_neg h1, if_pos h2], h3, ⟨h4, ?_, h5, ?_, ?_, ?_⟩, hF.mono (by decide)⟩
    · exact (hF.at 124 rfl 0).trans e124
    · intro k k0 k1; rw [hF.at 46 rfl k]; exact q46 k k0 k1
    · intro k k0 k1; rw [hF.at 44 rfl k]; exact q44 k k0 k1
    · intro k k0 k1
      dsimp only at k1 ⊢
      rw [h6 k]
      unfold upF
      by_cases hk : k = s.2.2.1
      · rw [if_pos hk, if_pos hk]
      · rw [if_neg hk, if_neg hk]; exact q45 k k0 (by omega)
  · exact Or.inr ⟨_, by rw [hp, taleF, if_neg h1, if_neg h2], h3, h4, hF.mono (by decide)⟩
theorem part_l {tx : Int → Int} {n z w hi : Int} {s : PS} {μ ν : Mem} (hp : partF tx n s = ruleF tx n s w hi) (hR : RP s μ) (hq : (fg tx n (s.1 + 1) hi ∧ 1 = z ∧ Fr [123, 46] μ ν ∧ ν 123 0 = s.1 + 2 ∧ ∀ j, ν 46 j = upF (μ 46) w (hr tx n (s.1 + 1) - 48) j) ∨ (¬ fg tx n (s.1 + 1) hi ∧ 0 = z ∧ Fr [123, 46] μ ν ∧ ν 123 0 = s.1 + 1)) : (∃ t, partF tx n s = .inr t ∧ 1 = z ∧ RP t ν ∧ Fr [44, 45, 46, 123, 124, 125] μ ν) ∨ (∃ p, partF tx n s = .inl p ∧ 0 = z ∧ ν 123 0 = p ∧ Fr [44, 45, 46, 123, 124, 125] μ ν) := by
  obtain ⟨e123, e124, e125, q46, q44, q45⟩ := hR
  rcases hq with ⟨h2, h3, hF, h4, h6⟩ | ⟨h2, h3, hF, h4⟩
  · refine Or.inl ⟨(s.1 + 2, s.2.1, s.2.2.1, upF s.2.2.2.1 w (hr tx n (s.1 + 1) - 48), s.2.2.2.2.1, s.2.2.2.2.2), by rw [hp, ruleF, if_pos h2], h3, ⟨h4, ?_, ?_, ?_, ?_, ?_⟩, hF.mono (by decide)⟩
    · exact (hF.at 124 rfl 0).trans e124
    · exact (hF.at 125 rfl 0).trans e125
    · intro k k0 k1
      dsimp only
      rw [h6 k]
      unfold upF
      by_cases hk : k = w
      · rw [if_pos hk, if_pos hk]
      · rw [if_neg hk, if_neg hk]; exact q46 k k0 k1
    · intro k k0 k1; rw [hF.at 44 rfl k]; exact q44 k k0 k1
    · intro k k0 k1; rw [hF.at 45 rfl k]; exact q45 k k0 k1
  · exact Or.inr ⟨_, by rw [hp, ruleF, if_neg h2], h3, h4, hF.mono (by decide)⟩
theorem c_X9_readsPart {tx : Int → Int} {n : Int} {s : PS} {μ : Mem} (e43 : μ 43 = tx) (e122 : μ 122 0 = n) (hn : 0 ≤ n ∧ n ≤ 60) (ht : ∀ k : Int, 0 ≤ k → k < n → 0 ≤ tx k ∧ tx k ≤ 255) (hR : RP s μ) (hok : PSok n s) : Mc kX9_readsPart [.inr (.inr 9)] μ (pI (fun z ν => (∃ t, partF tx n s = .inr t ∧ 1 = z ∧ RP t ν ∧ Fr [44, 45, 46, 123, 124, 125] μ ν) ∨ (∃ p, partF tx n s = .inl p ∧ 0 = z ∧ ν 123 0 = p ∧ Fr [44, 45, 46, 123, 124, 125] μ ν))) := by
  refine Mc_of (by decide +kernel) (fun _ => Nat.le_of_ble_eq_true rfl) ?_
  show AW kX9_readsPart 0 [some (.inr (.inr 9)), none] [] μ _
  have hR1 := hR
  obtain ⟨e123, e124, e125, q46, q44, q45⟩ := hR1
  obtain ⟨b1, b2, b3, b4, b5, b6, b7, b8⟩ := hok
  have hh := hr_in b1 ht (n := n)
  refine s_aload_0 (pc := 0) dX9_readsPart_0 ?_
  refine cV0i (pc := 1) (Ky := kX9_here) dX9_readsPart_1 rfl lnX9_132 okX9_here ⟨9, TX9, 40, rfl, rfl⟩ ⟨Nat.le_of_ble_eq_true rfl, Nat.le_of_ble_eq_true rfl⟩ (Nat.le_of_ble_eq_true rfl) (c_X9_here e43 e122 e123 hn (by omega)) ?_
  rintro _ _ ⟨rfl, rfl⟩
  refine s_istore_1 (pc := 4) dX9_readsPart_4 (Nat.le_of_ble_eq_true rfl) rfl ?_
  refine s_iload_1 (pc := 5) dX9_readsPart_5 ?_
  refine s_bipush (pc := 6) (z := 112) dX9_readsPart_6 rfl ?_
  refine s_icmp_ne (pc := 8) 16 dX9_readsPart_8 rfl (by omega) (by omega) (fun h8 => ?_) (fun h8 => ?_)
  · refine s_iload_1 (pc := 16) dX9_readsPart_16 ?_
    refine s_bipush (pc := 17) (z := 116) dX9_readsPart_17 rfl ?_
    refine s_icmp_ne (pc := 19) 27 dX9_readsPart_19 rfl (by omega) (by omega) (fun h19 => ?_) (fun h19 => ?_)
    · refine s_iload_1 (pc := 27) dX9_readsPart_27 ?_
      refine s_bipush (pc := 28) (z := 108) dX9_readsPart_28 rfl ?_
      refine s_icmp_eq (pc := 30) 45 dX9_readsPart_30 rfl (by omega) (by omega) (fun h30 => ?_) (fun h30 => ?_)
      · have hl : partF tx n s = ruleF tx n s 0 2 := by unfold partF; rw [if_neg (by omega), if_neg (by omega), if_pos (by omega)]
        refine s_aload_0 (pc := 45) dX9_readsPart_45 ?_
        refine s_iload_1 (pc := 46) dX9_readsPart_46 ?_
        refine s_bipush (pc := 47) (z := 108) dX9_readsPart_47 rfl ?_
        refine s_icmp_ne (pc := 49) 56 dX9_readsPart_49 rfl (by omega) (by omega) (fun h49 => ?_) (fun h49 => ?_)
        · refine s_iload_1 (pc := 56) dX9_readsPart_56 ?_
          refine s_bipush (pc := 57) (z := 109) dX9_readsPart_57 rfl ?_
          refine s_icmp_ne (pc := 59) 66 dX9_readsPart_59 rfl (by omega) (by omega) (fun h59 => ?_) (fun h59 => ?_)
          · refine s_iconst_2 (pc := 66) dX9_readsPart_66 ?_
            refine cV1i (pc := 67) (Ky := kX9_readsLaw) dX9_readsPart_67 rfl lnX9_146 okX9_readsLaw ⟨9, TX9, 40, rfl, rfl⟩ ⟨Nat.le_of_ble_eq_true rfl, Nat.le_of_ble_eq_true rfl⟩ (Nat.le_of_ble_eq_true rfl) (c_X9_readsLaw (hi := 3) e43 e122 e123 hn (by omega) ht (by omega)) ?_
            intro z1 ν1 hq
            have hz1 : z1 = 0 ∨ z1 = 1 := by rcases hq with ⟨_, h, _⟩ | ⟨_, h, _⟩ <;> omega
            refine s_if_eq (pc := 70) 77 dX9_readsPart_70 rfl (by omega) (fun h70 => ?_) (fun h70 => ?_)
            · refine s_iconst_0 (pc := 77) dX9_readsPart_77 ?_
              refine s_zreturn (pc := 78) dX9_readsPart_78 rfl (by omega) ?_
              first
                | (exfalso; omega; done)
                | (refine Or.inr ⟨s.1, ?_, rfl, e123, Fr.rf⟩
                   unfold partF
                   rw [if_neg (by omega), if_neg (by omega), if_neg (by omega), if_neg (by omega), if_neg (by omega)]
                   done)
                | (cases (show z1 = 0 by omega)
                   exact part_l hl hR hq)
                | (cases (show z1 = 1 by omega)
                   exact part_l hl hR hq)
            · refine s_iconst_1 (pc := 73) dX9_readsPart_73 ?_
              refine s_goto (pc := 74) 78 dX9_readsPart_74 rfl ?_
              refine s_zreturn (pc := 78) dX9_readsPart_78 rfl (by omega) ?_
              first
                | (exfalso; omega; done)
                | (refine Or.inr ⟨s.1, ?_, rfl, e123, Fr.rf⟩
                   unfold partF
                   rw [if_neg (by omega), if_neg (by omega), if_neg (by omega), if_neg (by omega), if_neg (by omega)]
                   done)
                | (cases (show z1 = 0 by omega)
                   exact part_l hl hR hq)
                | (cases (show z1 = 1 by omega)
                   exact part_l hl hR hq)
          · refine s_iconst_1 (pc := 62) dX9_readsPart_62 ?_
            refine s_goto (pc := 63) 67 dX9_readsPart_63 rfl ?_
            refine cV1i (pc := 67) (Ky := kX9_readsLaw) dX9_readsPart_67 rfl lnX9_146 okX9_readsLaw ⟨9, TX9, 40, rfl, rfl⟩ ⟨Nat.le_of_ble_eq_true rfl, Nat.le_of_ble_eq_true rfl⟩ (Nat.le_of_ble_eq_true rfl) (c_X9_readsLaw (hi := 2) e43 e122 e123 hn (by omega) ht (by omega)) ?_
            intro z1 ν1 hq
            have hz1 : z1 = 0 ∨ z1 = 1 := by rcases hq with ⟨_, h, _⟩ | ⟨_, h, _⟩ <;> omega
            refine s_if_eq (pc := 70) 77 dX9_readsPart_70 rfl (by omega) (fun h70 => ?_) (fun h70 => ?_)
            · refine s_iconst_0 (pc := 77) dX9_readsPart_77 ?_
              refine s_zreturn (pc := 78) dX9_readsPart_78 rfl (by omega) ?_
              first
                | (exfalso; omega; done)
                | (refine Or.inr ⟨s.1, ?_, rfl, e123, Fr.rf⟩
                   unfold partF
                   rw [if_neg (by omega), if_neg (by omega), if_neg (by omega), if_neg (by omega), if_neg (by omega)]
                   done)
                | (cases (show z1 = 0 by omega)
                   exact part_l hl hR hq)
                | (cases (show z1 = 1 by omega)
                   exact part_l hl hR hq)
            · refine s_iconst_1 (pc := 73) dX9_readsPart_73 ?_
              refine s_goto (pc := 74) 78 dX9_readsPart_74 rfl ?_
              refine s_zreturn (pc := 78) dX9_readsPart_78 rfl (by omega) ?_
              first
                | (exfalso; omega; done)
                | (refine Or.inr ⟨s.1, ?_, rfl, e123, Fr.rf⟩
                   unfold partF
                   rw [if_neg (by omega), if_neg (by omega), if_neg (by omega), if_neg (by omega), if_neg (by omega)]
                   done)
                | (cases (show z1 = 0 by omega)
                   exact part_l hl hR hq)
                | (cases (show z1 = 1 by omega)
                   exact part_l hl hR hq)
        · refine s_iconst_0 (pc := 52) dX9_readsPart_52 ?_
          refine s_goto (pc := 53) 67 dX9_readsPart_53 rfl ?_
          refine cV1i (pc := 67) (Ky := kX9_readsLaw) dX9_readsPart_67 rfl lnX9_146 okX9_readsLaw ⟨9, TX9, 40, rfl, rfl⟩ ⟨Nat.le_of_ble_eq_true rfl, Nat.le_of_ble_eq_true rfl⟩ (Nat.le_of_ble_eq_true rfl) (c_X9_readsLaw (hi := 2) e43 e122 e123 hn (by omega) ht (by omega)) ?_
          intro z1 ν1 hq
          have hz1 : z1 = 0 ∨ z1 = 1 := by rcases hq with ⟨_, h, _⟩ | ⟨_, h, _⟩ <;> omega
          refine s_if_eq (pc := 70) 77 dX9_readsPart_70 rfl (by omega) (fun h70 => ?_) (fun h70 => ?_)
          · refine s_iconst_0 (pc := 77) dX9_readsPart_77 ?_
            refine s_zreturn (pc := 78) dX9_readsPart_78 rfl (by omega) ?_
            first
              | (exfalso; omega; done)
              | (refine Or.inr ⟨s.1, ?_, rfl, e123, Fr.rf⟩
                 unfold partF
                 rw [if_neg (by omega), if_neg (by omega), if_neg (by omega), if_neg (by omega), if_neg (by omega)]
                 done)
              | (cases (show z1 = 0 by omega)
                 exact part_l hl hR hq)
              | (cases (show z1 = 1 by omega)
                 exact part_l hl hR hq)
          · refine s_iconst_1 (pc := 73) dX9_readsPart_73 ?_
            refine s_goto (pc := 74) 78 dX9_readsPart_74 rfl ?_
            refine s_zreturn (pc := 78) dX9_readsPart_78 rfl (by omega) ?_
            first
              | (exfalso; omega; done)
              | (refine Or.inr ⟨s.1, ?_, rfl, e123, Fr.rf⟩
                 unfold partF
                 rw [if_neg (by omega), if_neg (by omega), if_neg (by omega), if_neg (by omega), if_neg (by omega)]
                 done)
              | (cases (show z1 = 0 by omega)
                 exact part_l hl hR hq)
              | (cases (show z1 = 1 by omega)
                 exact part_l hl hR hq)
      · refine s_iload_1 (pc := 33) dX9_readsPart_33 ?_
        refine s_bipush (pc := 34) (z := 109) dX9_readsPart_34 rfl ?_
        refine s_icmp_eq (pc := 36) 45 dX9_readsPart_36 rfl (by omega) (by omega) (fun h36 => ?_) (fun h36 => ?_)
        · have hl : partF tx n s = ruleF tx n s 1 2 := by unfold partF; rw [if_neg (by omega), if_neg (by omega), if_neg (by omega), if_pos (by omega)]
          refine s_aload_0 (pc := 45) dX9_readsPart_45 ?_
          refine s_iload_1 (pc := 46) dX9_readsPart_46 ?_
          refine s_bipush (pc := 47) (z := 108) dX9_readsPart_47 rfl ?_
          refine s_icmp_ne (pc := 49) 56 dX9_readsPart_49 rfl (by omega) (by omega) (fun h49 => ?_) (fun h49 => ?_)
          · refine s_iload_1 (pc := 56) dX9_readsPart_56 ?_
            refine s_bipush (pc := 57) (z := 109) dX9_readsPart_57 rfl ?_
            refine s_icmp_ne (pc := 59) 66 dX9_readsPart_59 rfl (by omega) (by omega) (fun h59 => ?_) (fun h59 => ?_)
            · refine s_iconst_2 (pc := 66) dX9_readsPart_66 ?_
              refine cV1i (pc := 67) (Ky := kX9_readsLaw) dX9_readsPart_67 rfl lnX9_146 okX9_readsLaw ⟨9, TX9, 40, rfl, rfl⟩ ⟨Nat.le_of_ble_eq_true rfl, Nat.le_of_ble_eq_true rfl⟩ (Nat.le_of_ble_eq_true rfl) (c_X9_readsLaw (hi := 3) e43 e122 e123 hn (by omega) ht (by omega)) ?_
              intro z1 ν1 hq
              have hz1 : z1 = 0 ∨ z1 = 1 := by rcases hq with ⟨_, h, _⟩ | ⟨_, h, _⟩ <;> omega
              refine s_if_eq (pc := 70) 77 dX9_readsPart_70 rfl (by omega) (fun h70 => ?_) (fun h70 => ?_)
              · refine s_iconst_0 (pc := 77) dX9_readsPart_77 ?_
                refine s_zreturn (pc := 78) dX9_readsPart_78 rfl (by omega) ?_
                first
                  | (exfalso; omega; done)
                  | (refine Or.inr ⟨s.1, ?_, rfl, e123, Fr.rf⟩
                     unfold partF
                     rw [if_neg (by omega), if_neg (by omega), if_neg (by omega), if_neg (by omega), if_neg (by omega)]
                     done)
                  | (cases (show z1 = 0 by omega)
                     exact part_l hl hR hq)
                  | (cases (show z1 = 1 by omega)
                     exact part_l hl hR hq)
              · refine s_iconst_1 (pc := 73) dX9_readsPart_73 ?_
                refine s_goto (pc := 74) 78 dX9_readsPart_74 rfl ?_
                refine s_zreturn (pc := 78) dX9_readsPart_78 rfl (by omega) ?_
                first
                  | (exfalso; omega; done)
                  | (refine Or.inr ⟨s.1, ?_, rfl, e123, Fr.rf⟩
                     unfold partF
                     rw [if_neg (by omega), if_neg (by omega), if_neg (by omega), if_neg (by omega), if_neg (by omega)]
                     done)
                  | (cases (show z1 = 0 by omega)
                     exact part_l hl hR hq)
                  | (cases (show z1 = 1 by omega)
                     exact part_l hl hR hq)
            · refine s_iconst_1 (pc := 62) dX9_readsPart_62 ?_
              refine s_goto (pc := 63) 67 dX9_readsPart_63 rfl ?_
              refine cV1i (pc := 67) (Ky := kX9_readsLaw) dX9_readsPart_67 rfl lnX9_146 okX9_readsLaw ⟨9, TX9, 40, rfl, rfl⟩ ⟨Nat.le_of_ble_eq_true rfl, Nat.le_of_ble_eq_true rfl⟩ (Nat.le_of_ble_eq_true rfl) (c_X9_readsLaw (hi := 2) e43 e122 e123 hn (by omega) ht (by omega)) ?_
              intro z1 ν1 hq
              have hz1 : z1 = 0 ∨ z1 = 1 := by rcases hq with ⟨_, h, _⟩ | ⟨_, h, _⟩ <;> omega
              refine s_if_eq (pc := 70) 77 dX9_readsPart_70 rfl (by omega) (fun h70 => ?_) (fun h70 => ?_)
              · refine s_iconst_0 (pc := 77) dX9_readsPart_77 ?_
                refine s_zreturn (pc := 78) dX9_readsPart_78 rfl (by omega) ?_
                first
                  | (exfalso; omega; done)
                  | (refine Or.inr ⟨s.1, ?_, rfl, e123, Fr.rf⟩
                     unfold partF
                     rw [if_neg (by omega), if_neg (by omega), if_neg (by omega), if_neg (by omega), if_neg (by omega)]
                     done)
                  | (cases (show z1 = 0 by omega)
                     exact part_l hl hR hq)
                  | (cases (show z1 = 1 by omega)
                     exact part_l hl hR hq)
              · refine s_iconst_1 (pc := 73) dX9_readsPart_73 ?_
                refine s_goto (pc := 74) 78 dX9_readsPart_74 rfl ?_
                refine s_zreturn (pc := 78) dX9_readsPart_78 rfl (by omega) ?_
                first
                  | (exfalso; omega; done)
                  | (refine Or.inr ⟨s.1, ?_, rfl, e123, Fr.rf⟩
                     unfold partF
                     rw [if_neg (by omega), if_neg (by omega), if_neg (by omega), if_neg (by omega), if_neg (by omega)]
                     done)
                  | (cases (show z1 = 0 by omega)
                     exact part_l hl hR hq)
                  | (cases (show z1 = 1 by omega)
                     exact part_l hl hR hq)
          · refine s_iconst_0 (pc := 52) dX9_readsPart_52 ?_
            refine s_goto (pc := 53) 67 dX9_readsPart_53 rfl ?_
            refine cV1i (pc := 67) (Ky := kX9_readsLaw) dX9_readsPart_67 rfl lnX9_146 okX9_readsLaw ⟨9, TX9, 40, rfl, rfl⟩ ⟨Nat.le_of_ble_eq_true rfl, Nat.le_of_ble_eq_true rfl⟩ (Nat.le_of_ble_eq_true rfl) (c_X9_readsLaw (hi := 2) e43 e122 e123 hn (by omega) ht (by omega)) ?_
            intro z1 ν1 hq
            have hz1 : z1 = 0 ∨ z1 = 1 := by rcases hq with ⟨_, h, _⟩ | ⟨_, h, _⟩ <;> omega
            refine s_if_eq (pc := 70) 77 dX9_readsPart_70 rfl (by omega) (fun h70 => ?_) (fun h70 => ?_)
            · refine s_iconst_0 (pc := 77) dX9_readsPart_77 ?_
              refine s_zreturn (pc := 78) dX9_readsPart_78 rfl (by omega) ?_
              first
                | (exfalso; omega; done)
                | (refine Or.inr ⟨s.1, ?_, rfl, e123, Fr.rf⟩
                   unfold partF
                   rw [if_neg (by omega), if_neg (by omega), if_neg (by omega), if_neg (by omega), if_neg (by omega)]
                   done)
                | (cases (show z1 = 0 by omega)
                   exact part_l hl hR hq)
                | (cases (show z1 = 1 by omega)
                   exact part_l hl hR hq)
            · refine s_iconst_1 (pc := 73) dX9_readsPart_73 ?_
              refine s_goto (pc := 74) 78 dX9_readsPart_74 rfl ?_
              refine s_zreturn (pc := 78) dX9_readsPart_78 rfl (by omega) ?_
              first
                | (exfalso; omega; done)
                | (refine Or.inr ⟨s.1, ?_, rfl, e123, Fr.rf⟩
                   unfold partF
                   rw [if_neg (by omega), if_neg (by omega), if_neg (by omega), if_neg (by omega), if_neg (by omega)]
                   done)
                | (cases (show z1 = 0 by omega)
                   exact part_l hl hR hq)
                | (cases (show z1 = 1 by omega)
                   exact part_l hl hR hq)
        · refine s_iload_1 (pc := 39) dX9_readsPart_39 ?_
          refine s_bipush (pc := 40) (z := 111) dX9_readsPart_40 rfl ?_
          refine s_icmp_ne (pc := 42) 77 dX9_readsPart_42 rfl (by omega) (by omega) (fun h42 => ?_) (fun h42 => ?_)
          · refine s_iconst_0 (pc := 77) dX9_readsPart_77 ?_
            refine s_zreturn (pc := 78) dX9_readsPart_78 rfl (by omega) ?_
            first
              | (exfalso; omega; done)
              | (refine Or.inr ⟨s.1, ?_, rfl, e123, Fr.rf⟩
                 unfold partF
                 rw [if_neg (by omega), if_neg (by omega), if_neg (by omega), if_neg (by omega), if_neg (by omega)]
                 done)
              | (cases (show z1 = 0 by omega)
                 exact part_l hl hR hq)
              | (cases (show z1 = 1 by omega)
                 exact part_l hl hR hq)
          · have hl : partF tx n s = ruleF tx n s 2 3 := by unfold partF; rw [if_neg (by omega), if_neg (by omega), if_neg (by omega), if_neg (by omega), if_pos (by omega)]
            refine s_aload_0 (pc := 45) dX9_readsPart_45 ?_
            refine s_iload_1 (pc := 46) dX9_readsPart_46 ?_
            refine s_bipush (pc := 47) (z := 108) dX9_readsPart_47 rfl ?_
            refine s_icmp_ne (pc := 49) 56 dX9_readsPart_49 rfl (by omega) (by omega) (fun h49 => ?_) (fun h49 => ?_)
            · refine s_iload_1 (pc := 56) dX9_readsPart_56 ?_
              refine s_bipush (pc := 57) (z := 109) dX9_readsPart_57 rfl ?_
              refine s_icmp_ne (pc := 59) 66 dX9_readsPart_59 rfl (by omega) (by omega) (fun h59 => ?_) (fun h59 => ?_)
              · refine s_iconst_2 (pc := 66) dX9_readsPart_66 ?_
                refine cV1i (pc := 67) (Ky := kX9_readsLaw) dX9_readsPart_67 rfl lnX9_146 okX9_readsLaw ⟨9, TX9, 40, rfl, rfl⟩ ⟨Nat.le_of_ble_eq_true rfl, Nat.le_of_ble_eq_true rfl⟩ (Nat.le_of_ble_eq_true rfl) (c_X9_readsLaw (hi := 3) e43 e122 e123 hn (by omega) ht (by omega)) ?_
                intro z1 ν1 hq
                have hz1 : z1 = 0 ∨ z1 = 1 := by rcases hq with ⟨_, h, _⟩ | ⟨_, h, _⟩ <;> omega
                refine s_if_eq (pc := 70) 77 dX9_readsPart_70 rfl (by omega) (fun h70 => ?_) (fun h70 => ?_)
                · refine s_iconst_0 (pc := 77) dX9_readsPart_77 ?_
                  refine s_zreturn (pc := 78) dX9_readsPart_78 rfl (by omega) ?_
                  first
                    | (exfalso; omega; done)
                    | (refine Or.inr ⟨s.1, ?_, rfl, e123, Fr.rf⟩
                       unfold partF
                       rw [if_neg (by omega), if_neg (by omega), if_neg (by omega), if_neg (by omega), if_neg (by omega)]
                       done)
                    | (cases (show z1 = 0 by omega)
                       exact part_l hl hR hq)
                    | (cases (show z1 = 1 by omega)
                       exact part_l hl hR hq)
                · refine s_iconst_1 (pc := 73) dX9_readsPart_73 ?_
                  refine s_goto (pc := 74) 78 dX9_readsPart_74 rfl ?_
                  refine s_zreturn (pc := 78) dX9_readsPart_78 rfl (by omega) ?_
                  first
                    | (exfalso; omega; done)
                    | (refine Or.inr ⟨s.1, ?_, rfl, e123, Fr.rf⟩
                       unfold partF
                       rw [if_neg (by omega), if_neg (by omega), if_neg (by omega), if_neg (by omega), if_neg (by omega)]
                       done)
                    | (cases (show z1 = 0 by omega)
                       exact part_l hl hR hq)
                    | (cases (show z1 = 1 by omega)
                       exact part_l hl hR hq)
              · refine s_iconst_1 (pc := 62) dX9_readsPart_62 ?_
                refine s_goto (pc := 63) 67 dX9_readsPart_63 rfl ?_
                refine cV1i (pc := 67) (Ky := kX9_readsLaw) dX9_readsPart_67 rfl lnX9_146 okX9_readsLaw ⟨9, TX9, 40, rfl, rfl⟩ ⟨Nat.le_of_ble_eq_true rfl, Nat.le_of_ble_eq_true rfl⟩ (Nat.le_of_ble_eq_true rfl) (c_X9_readsLaw (hi := 2) e43 e122 e123 hn (by omega) ht (by omega)) ?_
                intro z1 ν1 hq
                have hz1 : z1 = 0 ∨ z1 = 1 := by rcases hq with ⟨_, h, _⟩ | ⟨_, h, _⟩ <;> omega
                refine s_if_eq (pc := 70) 77 dX9_readsPart_70 rfl (by omega) (fun h70 => ?_) (fun h70 => ?_)
                · refine s_iconst_0 (pc := 77) dX9_readsPart_77 ?_
                  refine s_zreturn (pc := 78) dX9_readsPart_78 rfl (by omega) ?_
                  first
                    | (exfalso; omega; done)
                    | (refine Or.inr ⟨s.1, ?_, rfl, e123, Fr.rf⟩
                       unfold partF
                       rw [if_neg (by omega), if_neg (by omega), if_neg (by omega), if_neg (by omega), if_neg (by omega)]
                       done)
                    | (cases (show z1 = 0 by omega)
                       exact part_l hl hR hq)
                    | (cases (show z1 = 1 by omega)
                       exact part_l hl hR hq)
                · refine s_iconst_1 (pc := 73) dX9_readsPart_73 ?_
                  refine s_goto (pc := 74) 78 dX9_readsPart_74 rfl ?_
                  refine s_zreturn (pc := 78) dX9_readsPart_78 rfl (by omega) ?_
                  first
                    | (exfalso; omega; done)
                    | (refine Or.inr ⟨s.1, ?_, rfl, e123, Fr.rf⟩
                       unfold partF
                       rw [if_neg (by omega), if_neg (by omega), if_neg (by omega), if_neg (by omega), if_neg (by omega)]
                       done)
                    | (cases (show z1 = 0 by omega)
                       exact part_l hl hR hq)
                    | (cases (show z1 = 1 by omega)
                       exact part_l hl hR hq)
            · refine s_iconst_0 (pc := 52) dX9_readsPart_52 ?_
              refine s_goto (pc := 53) 67 dX9_readsPart_53 rfl ?_
              refine cV1i (pc := 67) (Ky := kX9_readsLaw) dX9_readsPart_67 rfl lnX9_146 okX9_readsLaw ⟨9, TX9, 40, rfl, rfl⟩ ⟨Nat.le_of_ble_eq_true rfl, Nat.le_of_ble_eq_true rfl⟩ (Nat.le_of_ble_eq_true rfl) (c_X9_readsLaw (hi := 2) e43 e122 e123 hn (by omega) ht (by omega)) ?_
              intro z1 ν1 hq
              have hz1 : z1 = 0 ∨ z1 = 1 := by rcases hq with ⟨_, h, _⟩ | ⟨_, h, _⟩ <;> omega
              refine s_if_eq (pc := 70) 77 dX9_readsPart_70 rfl (by omega) (fun h70 => ?_) (fun h70 => ?_)
              · refine s_iconst_0 (pc := 77) dX9_readsPart_77 ?_
                refine s_zreturn (pc := 78) dX9_readsPart_78 rfl (by omega) ?_
                first
                  | (exfalso; omega; done)
                  | (refine Or.inr ⟨s.1, ?_, rfl, e123, Fr.rf⟩
                     unfold partF
                     rw [if_neg (by omega), if_neg (by omega), if_neg (by omega), if_neg (by omega), if_neg (by omega)]
                     done)
                  | (cases (show z1 = 0 by omega)
                     exact part_l hl hR hq)
                  | (cases (show z1 = 1 by omega)
                     exact part_l hl hR hq)
              · refine s_iconst_1 (pc := 73) dX9_readsPart_73 ?_
                refine s_goto (pc := 74) 78 dX9_readsPart_74 rfl ?_
                refine s_zreturn (pc := 78) dX9_readsPart_78 rfl (by omega) ?_
                first
                  | (exfalso; omega; done)
                  | (refine Or.inr ⟨s.1, ?_, rfl, e123, Fr.rf⟩
                     unfold partF
                     rw [if_neg (by omega), if_neg (by omega), if_neg (by omega), if_neg (by omega), if_neg (by omega)]
                     done)
                  | (cases (show z1 = 0 by omega)
                     exact part_l hl hR hq)
                  | (cases (show z1 = 1 by omega)
                     exact part_l hl hR hq)
    · refine s_aload_0 (pc := 22) dX9_readsPart_22 ?_
      refine cV0i (pc := 23) (Ky := kX9_readsTale) dX9_readsPart_23 rfl lnX9_143 okX9_readsTale ⟨9, TX9, 40, rfl, rfl⟩ ⟨Nat.le_of_ble_eq_true rfl, Nat.le_of_ble_eq_true rfl⟩ (Nat.le_of_ble_eq_true rfl) (c_X9_readsTale e43 e122 e123 e125 hn (by omega) (by omega) ht) ?_
      intro z1 ν1 hq
      refine s_zreturn (pc := 26) dX9_readsPart_26 rfl (by rcases hq with ⟨_, h, _⟩ | ⟨_, h, _⟩ | ⟨_, h, _⟩ <;> omega) ?_
      exact part_t (by omega) hR hq
  · refine s_aload_0 (pc := 11) dX9_readsPart_11 ?_
    refine cV0i (pc := 12) (Ky := kX9_readsPerson) dX9_readsPart_12 rfl lnX9_139 okX9_readsPerson ⟨9, TX9, 40, rfl, rfl⟩ ⟨Nat.le_of_ble_eq_true rfl, Nat.le_of_ble_eq_true rfl⟩ (Nat.le_of_ble_eq_true rfl) (c_X9_readsPerson e43 e122 e123 e124 hn (by omega) (by omega) ht) ?_
    intro z1 ν1 hq
    refine s_zreturn (pc := 15) dX9_readsPart_15 rfl (by rcases hq with ⟨_, h, _⟩ | ⟨_, _, h, _⟩ | ⟨_, _, h, _⟩ <;> omega) ?_
    exact part_p (by omega) hR hq
