theorem c_X9_hire {tx : Int → Int} {n p t w : Int} {hd lv : Int → Int} {μ : Mem} (h_p : -2147483648 ≤ p ∧ p < 2147483648) (h_t : -2147483648 ≤ t ∧ t < 2147483648) (h_w : -2147483648 ≤ w ∧ w < 2147483648) (e43 : μ 43 = tx) (e122 : μ 122 0 = n) (hn : 0 ≤ n ∧ n ≤ 60) (ht : ∀ k : Int, 0 ≤ k → k < n → 0 ≤ tx k ∧ tx k ≤ 255) (e47 : μ 47 = hd) (e48 : μ 48 = lv) (hhd : ∀ p : Int, 0 ≤ p → p < 4 → 0 ≤ hd p ∧ hd p ≤ 15) (hlv : ∀ p : Int, 0 ≤ p → p < 4 → 0 ≤ lv p ∧ lv p ≤ 4) : Mc kX9_hire [.inr (.inr 9), .inl p, .inl t, .inl w] μ (pL (fun z ν => (if (0 ≤ p ∧ p < pPe tx n) ∧ (0 ≤ t ∧ t ≤ 9) ∧ (0 ≤ w ∧ w ≤ 1) then (if pPe tx n = 4 then -9223372036854775804 else frc (cst (cfg tx n hd lv) p - cst (kH (cfg tx n hd lv) (pPe tx n) t) p) (6144 ^ (pTa tx n).toNat) w) else -9223372036854775806) = z ∧ Fr [42, 44, 45, 46, 49, 50, 51, 52, 53, 54, 55, 56, 123, 124, 125, 126, 127, 128, 129, 130, 131, 132, 133, 134] μ ν)) := by
  refine Mc_of (by decide +kernel) (fun _ => Nat.le_of_ble_eq_true rfl) ?_
  show AW kX9_hire 0 [some (.inr (.inr 9)), some (.inl p), some (.inl t), some (.inl w), none, none] [] μ _
  have hpe := pPe_in (tx := tx) hn.1
  have hta := pTa_in (tx := tx) hn.1
  refine s_aload_0 (pc := 0) dX9_hire_0 ?_
  refine s_iload_1 (pc := 1) dX9_hire_1 ?_
  refine cV1i (pc := 2) (Ky := kX9_isPerson) dX9_hire_2 rfl lnX9_158 okX9_isPerson ⟨9, TX9, 40, rfl, rfl⟩ ⟨Nat.le_of_ble_eq_true rfl, Nat.le_of_ble_eq_true rfl⟩ (Nat.le_of_ble_eq_true rfl) (c_X9_isPerson (by omega) e43 e122 hn ht) ?_
  rintro _ ν2 ⟨rfl, hF2, hM2⟩
  obtain ⟨k1, k2, k3, k4, k5⟩ := id hM2
  refine s_if_eq (pc := 5) 27 dX9_hire_5 rfl (by omega) (fun h5 => ?_) (fun h5 => ?_)
  · refine s_bipush (pc := 27) (z := -2) dX9_hire_27 rfl ?_
    refine cS1l (pc := 29) (Ky := kX9_no) dX9_hire_29 rfl lnX9_251 okX9_no ⟨Nat.le_of_ble_eq_true rfl, Nat.le_of_ble_eq_true rfl⟩ (Nat.le_of_ble_eq_true rfl) (c_X9_no (by omega)) ?_
    rintro _ _ ⟨rfl, rfl⟩
    refine s_lreturn (pc := 32) dX9_hire_32 rfl ?_
    first
      | exact ⟨by rw [if_neg (by omega)]; rfl, hF2.mono (by decide)⟩
      | exact ⟨by rw [if_pos (by omega), if_pos (by omega)]; rfl, hF2.mono (by decide)⟩
      | exact ⟨by rw [if_pos (by omega), if_neg (by omega), ← Int.sub_mul]; exact (frc_mul (by omega)).symm, hFb⟩
  · refine s_iload_2 (pc := 8) dX9_hire_8 ?_
    refine s_i2l (pc := 9) dX9_hire_9 (by omega) ?_
    refine s_lconst_0 (pc := 10) dX9_hire_10 ?_
    refine s_ldc2_w (pc := 11) dX9_hire_11 rfl cnX9_300 ?_
    refine cS3i (pc := 14) (Ky := kX9_in) dX9_hire_14 rfl lnX9_89 okX9_in ⟨Nat.le_of_ble_eq_true rfl, Nat.le_of_ble_eq_true rfl⟩ (Nat.le_of_ble_eq_true rfl) (c_X9_in (by omega) (by omega) (by omega)) ?_
    rintro _ _ ⟨rfl, rfl⟩
    refine s_if_eq (pc := 17) 27 dX9_hire_17 rfl (by omega) (fun h17 => ?_) (fun h17 => ?_)
    · refine s_bipush (pc := 27) (z := -2) dX9_hire_27 rfl ?_
      refine cS1l (pc := 29) (Ky := kX9_no) dX9_hire_29 rfl lnX9_251 okX9_no ⟨Nat.le_of_ble_eq_true rfl, Nat.le_of_ble_eq_true rfl⟩ (Nat.le_of_ble_eq_true rfl) (c_X9_no (by omega)) ?_
      rintro _ _ ⟨rfl, rfl⟩
      refine s_lreturn (pc := 32) dX9_hire_32 rfl ?_
      first
        | exact ⟨by rw [if_neg (by omega)]; rfl, hF2.mono (by decide)⟩
        | exact ⟨by rw [if_pos (by omega), if_pos (by omega)]; rfl, hF2.mono (by decide)⟩
        | exact ⟨by rw [if_pos (by omega), if_neg (by omega), ← Int.sub_mul]; exact (frc_mul (by omega)).symm, hFb⟩
    · refine s_iload_3 (pc := 20) dX9_hire_20 ?_
      refine cS1i (pc := 21) (Ky := kX9_isTwo) dX9_hire_21 rfl lnX9_244 okX9_isTwo ⟨Nat.le_of_ble_eq_true rfl, Nat.le_of_ble_eq_true rfl⟩ (Nat.le_of_ble_eq_true rfl) (c_X9_isTwo (by omega)) ?_
      rintro _ _ ⟨rfl, rfl⟩
      refine s_if_ne (pc := 24) 33 dX9_hire_24 rfl (by omega) (fun h24 => ?_) (fun h24 => ?_)
      · refine s_aload_0 (pc := 33) dX9_hire_33 ?_
        refine gfX9_126 (pc := 34) dX9_hire_34 rfl ?_
        try simp (decide := true) only [wr_s, wr_n, wa_s, wa_n, mg_i, mg_o, if_true, eq_self, reduceIte]
        try rw [c124]
        refine s_iconst_4 (pc := 37) dX9_hire_37 ?_
        refine s_icmp_ne (pc := 38) 47 dX9_hire_38 rfl (by omega) (by omega) (fun h38 => ?_) (fun h38 => ?_)
        · refine s_aload_0 (pc := 47) dX9_hire_47 ?_
          refine cV0v (pc := 48) (Ky := kX9_tries) dX9_hire_48 rfl lnX9_194 okX9_tries ⟨9, TX9, 40, rfl, rfl⟩ ⟨Nat.le_of_ble_eq_true rfl, Nat.le_of_ble_eq_true rfl⟩ (Nat.le_of_ble_eq_true rfl) (c_X9_tries (tx := tx) (n := n) (by rw [hF2.fn 43 rfl]; exact e43) (by rw [hF2.at 122 rfl 0]; exact e122) hn ht (by rw [hF2.fn 47 rfl]; exact e47) (by rw [hF2.fn 48 rfl]; exact e48) hhd hlv) ?_
          rintro ν48 ⟨hF48, hR48, hM48⟩
          have hko := cfg_KO hM48.1 (by omega)
          have hpw := p6144 hko.1
          have hsc := sc_in hko.1
          have c124 : ν48 124 0 = pPe tx n := hR48.1
          have hmp : (6144 : Int) ^ ((cfg tx n hd lv) 125 0).toNat * sc (cfg tx n hd lv) ≤ 6144 ^ ((cfg tx n hd lv) 125 0).toNat * 16 := Int.mul_le_mul_of_nonneg_left hsc.2.1 (by omega)
          have hmp0 : 0 < (6144 : Int) ^ ((cfg tx n hd lv) 125 0).toNat * sc (cfg tx n hd lv) := Int.mul_pos (by omega) (by omega)
          refine s_aload_0 (pc := 51) dX9_hire_51 ?_
          refine s_iload_1 (pc := 52) dX9_hire_52 ?_
          refine cV1l (pc := 53) (Ky := kX9_costNow) dX9_hire_53 rfl lnX9_258 okX9_costNow ⟨9, TX9, 40, rfl, rfl⟩ ⟨Nat.le_of_ble_eq_true rfl, Nat.le_of_ble_eq_true rfl⟩ (Nat.le_of_ble_eq_true rfl) (c_X9_costNow hM48 hko.2 (show 0 ≤ p ∧ p < pPe tx n by omega) (show p < pPe tx n by omega)) ?_
          rintro _ ν53 ⟨rfl, hF53⟩
          have hM53 := hM48.fr hF53 (by decide)
          have c124 : ν53 124 0 = pPe tx n := by rw [hF53.at 124 rfl 0]; exact hR48.1
          have hFa : Fr [42, 44, 45, 46, 49, 50, 51, 52, 53, 54, 55, 56, 123, 124, 125, 126, 127, 128, 129, 130, 131, 132, 133, 134] μ ν53 := ((hF2.mono (by decide)).tr (hF48.mono (by decide))).tr (hF53.mono (by decide))
          refine s_lstore_4 (pc := 56) dX9_hire_56 (Nat.le_of_ble_eq_true rfl) rfl ?_
          refine s_aload_0 (pc := 58) dX9_hire_58 ?_
          refine gfX9_46 (pc := 59) dX9_hire_59 rfl ?_
          refine s_aload_0 (pc := 62) dX9_hire_62 ?_
          refine gfX9_126 (pc := 63) dX9_hire_63 rfl ?_
          try simp (decide := true) only [wr_s, wr_n, wa_s, wa_n, mg_i, mg_o, if_true, eq_self, reduceIte]
          try rw [c124]
          refine s_iload_2 (pc := 66) dX9_hire_66 ?_
          refine z_iastore (pc := 67) dX9_hire_67 ly_51 ip_51 (by omega) (by omega) ?_
          refine s_aload_0 (pc := 68) dX9_hire_68 ?_
          refine gfX9_40 (pc := 69) dX9_hire_69 rfl ?_
          refine s_aload_0 (pc := 72) dX9_hire_72 ?_
          refine gfX9_126 (pc := 73) dX9_hire_73 rfl ?_
          try simp (decide := true) only [wr_s, wr_n, wa_s, wa_n, mg_i, mg_o, if_true, eq_self, reduceIte]
          try rw [c124]
          refine s_iconst_0 (pc := 76) dX9_hire_76 ?_
          refine z_iastore (pc := 77) dX9_hire_77 ly_49 ip_49 (by omega) (by omega) ?_
          refine s_aload_0 (pc := 78) dX9_hire_78 ?_
          refine gfX9_43 (pc := 79) dX9_hire_79 rfl ?_
          refine s_aload_0 (pc := 82) dX9_hire_82 ?_
          refine gfX9_126 (pc := 83) dX9_hire_83 rfl ?_
          try simp (decide := true) only [wr_s, wr_n, wa_s, wa_n, mg_i, mg_o, if_true, eq_self, reduceIte]
          try rw [c124]
          refine s_iconst_4 (pc := 86) dX9_hire_86 ?_
          refine z_iastore (pc := 87) dX9_hire_87 ly_50 ip_50 (by omega) (by omega) ?_
          refine s_aload_0 (pc := 88) dX9_hire_88 ?_
          refine s_aload_0 (pc := 89) dX9_hire_89 ?_
          refine gfX9_126 (pc := 90) dX9_hire_90 rfl ?_
          try simp (decide := true) only [wr_s, wr_n, wa_s, wa_n, mg_i, mg_o, if_true, eq_self, reduceIte]
          try rw [c124]
          refine s_iconst_1 (pc := 93) dX9_hire_93 ?_
          refine s_iadd (pc := 94) dX9_hire_94 ?_
          refine pfX9_171 (pc := 95) dX9_hire_95 rfl ?_
          refine s_lload_4 (pc := 98) dX9_hire_98 ?_
          refine s_aload_0 (pc := 100) dX9_hire_100 ?_
          refine s_iload_1 (pc := 101) dX9_hire_101 ?_
          have hMh : MR (kH (cfg tx n hd lv) (pPe tx n) t) (wr (wr (wr (wr ν53 51 (pPe tx n) t) 49 (pPe tx n) 0) 50 (pPe tx n) 4) 129 0 (pPe tx n + 1)) := (((hM53.w51 (by omega)).w49 (by omega)).w50 (by omega)).w129 (by omega)
          have hkh := kH_KO (P := pPe tx n) (t := t) hko ⟨rfl, by omega⟩ (by omega)
          have e1 : kH (cfg tx n hd lv) (pPe tx n) t 129 0 = pPe tx n + 1 := by unfold kH; rw [wr_s, if_pos rfl]
          have e2 : kH (cfg tx n hd lv) (pPe tx n) t 124 0 = pPe tx n := by rw [kH_o (by decide) (by decide) (by decide) (by decide)]; rfl
          have e3 : kH (cfg tx n hd lv) (pPe tx n) t 125 0 = (cfg tx n hd lv) 125 0 := by rw [kH_o (by decide) (by decide) (by decide) (by decide)]
          have hc1 := cst_in hko (p := p) (by omega) (show p < pPe tx n by omega) (show p < pPe tx n by omega)
          have hc2 := cst_in hkh (p := p) (by omega) (by omega) (by omega)
          rw [e3] at hc2
          have hd1 := cost_in hko.1 hc1.1 hc1.2
          have hd2 := cost_in hko.1 hc2.1 hc2.2
          refine cV1l (pc := 102) (Ky := kX9_costNow) dX9_hire_102 rfl lnX9_258 okX9_costNow ⟨9, TX9, 40, rfl, rfl⟩ ⟨Nat.le_of_ble_eq_true rfl, Nat.le_of_ble_eq_true rfl⟩ (Nat.le_of_ble_eq_true rfl) (c_X9_costNow hMh hkh.2 (by omega) (by omega)) ?_
          rintro _ ν102 ⟨rfl, hF102⟩
          rw [kH_sc]
          have hM102 := hMh.fr hF102 (by decide)
          have hFb : Fr [42, 44, 45, 46, 49, 50, 51, 52, 53, 54, 55, 56, 123, 124, 125, 126, 127, 128, 129, 130, 131, 132, 133, 134] μ ν102 := ((((hFa.wr (by decide)).wr (by decide)).wr (by decide)).wr (by decide)).tr (hF102.mono (by decide))
          refine s_lsub (pc := 105) dX9_hire_105 ?_
          refine s_aload_0 (pc := 106) dX9_hire_106 ?_
          refine cV0l (pc := 107) (Ky := kX9_all) dX9_hire_107 rfl lnX9_233 okX9_all ⟨9, TX9, 40, rfl, rfl⟩ ⟨Nat.le_of_ble_eq_true rfl, Nat.le_of_ble_eq_true rfl⟩ (Nat.le_of_ble_eq_true rfl) (c_X9_all hM102) ?_
          rintro _ _ ⟨rfl, rfl⟩
          rw [kH_sc, e3]
          refine s_iload_3 (pc := 110) dX9_hire_110 ?_
          refine cS3l (pc := 111) (Ky := kX9_part) dX9_hire_111 rfl lnX9_240 okX9_part ⟨Nat.le_of_ble_eq_true rfl, Nat.le_of_ble_eq_true rfl⟩ (Nat.le_of_ble_eq_true rfl) (c_X9_part (by omega) (by omega) (by omega)) ?_
          rintro _ _ ⟨rfl, rfl⟩
          refine s_lreturn (pc := 114) dX9_hire_114 rfl ?_
          first
            | exact ⟨by rw [if_neg (by omega)]; rfl, hF2.mono (by decide)⟩
            | exact ⟨by rw [if_pos (by omega), if_pos (by omega)]; rfl, hF2.mono (by decide)⟩
            | exact ⟨by rw [if_pos (by omega), if_neg (by omega), ← Int.sub_mul]; exact (frc_mul (by omega)).symm, hFb⟩
        · refine s_bipush (pc := 41) (z := -4) dX9_hire_41 rfl ?_
          refine cS1l (pc := 43) (Ky := kX9_no) dX9_hire_43 rfl lnX9_251 okX9_no ⟨Nat.le_of_ble_eq_true rfl, Nat.le_of_ble_eq_true rfl⟩ (Nat.le_of_ble_eq_true rfl) (c_X9_no (by omega)) ?_
          rintro _ _ ⟨rfl, rfl⟩
          refine s_lreturn (pc := 46) dX9_hire_46 rfl ?_
          first
            | exact ⟨by rw [if_neg (by omega)]; rfl, hF2.mono (by decide)⟩
            | exact ⟨by rw [if_pos (by omega), if_pos (by omega)]; rfl, hF2.mono (by decide)⟩
            | exact ⟨by rw [if_pos (by omega), if_neg (by omega), ← Int.sub_mul]; exact (frc_mul (by omega)).symm, hFb⟩
      · refine s_bipush (pc := 27) (z := -2) dX9_hire_27 rfl ?_
        refine cS1l (pc := 29) (Ky := kX9_no) dX9_hire_29 rfl lnX9_251 okX9_no ⟨Nat.le_of_ble_eq_true rfl, Nat.le_of_ble_eq_true rfl⟩ (Nat.le_of_ble_eq_true rfl) (c_X9_no (by omega)) ?_
        rintro _ _ ⟨rfl, rfl⟩
        refine s_lreturn (pc := 32) dX9_hire_32 rfl ?_
        first
          | exact ⟨by rw [if_neg (by omega)]; rfl, hF2.mono (by decide)⟩
          | exact ⟨by rw [if_pos (by omega), if_pos (by omega)]; rfl, hF2.mono (by decide)⟩
          | exact ⟨by rw [if_pos (by omega), if_neg (by omega), ← Int.sub_mul]; exact (frc_mul (by omega)).symm, hFb⟩
theorem c_X9_other {tx : Int → Int} {n p a b w : Int} {hd lv : Int → Int} {μ : Mem} (h_p : -2147483648 ≤ p ∧ p < 2147483648) (h_a : -2147483648 ≤ a ∧ a < 2147483648) (h_b : -2147483648 ≤ b ∧ b < 2147483648) (h_w : -2147483648 ≤ w ∧ w < 2147483648) (e43 : μ 43 = tx) (e122 : μ 122 0 = n) (hn : 0 ≤ n ∧ n ≤ 60) (ht : ∀ k : Int, 0 ≤ k → k < n → 0 ≤ tx k ∧ tx k ≤ 255) (e47 : μ 47 = hd) (e48 : μ 48 = lv) (hhd : ∀ p : Int, 0 ≤ p → p < 4 → 0 ≤ hd p ∧ hd p ≤ 15) (hlv : ∀ p : Int, 0 ≤ p → p < 4 → 0 ≤ lv p ∧ lv p ≤ 4) : Mc kX9_other [.inr (.inr 9), .inl p, .inl a, .inl b, .inl w] μ (pL (fun z ν => (if (0 ≤ p ∧ p < pPe tx n) ∧ (0 ≤ a ∧ a ≤ 2) ∧ (0 ≤ b ∧ b ≤ 2) ∧ (0 ≤ w ∧ w ≤ 1) then frc (am (kO (cfg tx n hd lv) a b) p) (6144 ^ (pTa tx n).toNat) w else -9223372036854775806) = z ∧ Fr [42, 44, 45, 46, 49, 50, 51, 52, 53, 54, 55, 56, 123, 124, 125, 126, 127, 128, 129, 130, 131, 132, 133, 134] μ ν)) := by
  refine Mc_of (by decide +kernel) (fun _ => Nat.le_of_ble_eq_true rfl) ?_
  show AW kX9_other 0 [some (.inr (.inr 9)), some (.inl p), some (.inl a), some (.inl b), some (.inl w)] [] μ _
  have hpe := pPe_in (tx := tx) hn.1
  have hta := pTa_in (tx := tx) hn.1
  refine s_aload_0 (pc := 0) dX9_other_0 ?_
  refine s_iload_1 (pc := 1) dX9_other_1 ?_
  refine cV1i (pc := 2) (Ky := kX9_isPerson) dX9_other_2 rfl lnX9_158 okX9_isPerson ⟨9, TX9, 40, rfl, rfl⟩ ⟨Nat.le_of_ble_eq_true rfl, Nat.le_of_ble_eq_true rfl⟩ (Nat.le_of_ble_eq_true rfl) (c_X9_isPerson (by omega) e43 e122 hn ht) ?_
  rintro _ ν2 ⟨rfl, hF2, hM2⟩
  obtain ⟨k1, k2, k3, k4, k5⟩ := id hM2
  refine s_if_eq (pc := 5) 40 dX9_other_5 rfl (by omega) (fun h5 => ?_) (fun h5 => ?_)
  · refine s_bipush (pc := 40) (z := -2) dX9_other_40 rfl ?_
    refine cS1l (pc := 42) (Ky := kX9_no) dX9_other_42 rfl lnX9_251 okX9_no ⟨Nat.le_of_ble_eq_true rfl, Nat.le_of_ble_eq_true rfl⟩ (Nat.le_of_ble_eq_true rfl) (c_X9_no (by omega)) ?_
    rintro _ _ ⟨rfl, rfl⟩
    refine s_lreturn (pc := 45) dX9_other_45 rfl ?_
    first
      | exact ⟨by rw [if_neg (by omega)]; rfl, hF2.mono (by decide)⟩
      | exact ⟨by rw [if_pos (by omega)]; exact (frc_mul (by omega)).symm, ((hFa.wr (by decide)).wr (by decide)).tr (hF62.mono (by decide))⟩
  · refine s_iload_2 (pc := 8) dX9_other_8 ?_
    refine s_i2l (pc := 9) dX9_other_9 (by omega) ?_
    refine s_lconst_0 (pc := 10) dX9_other_10 ?_
    refine s_ldc2_w (pc := 11) dX9_other_11 rfl cnX9_103 ?_
    refine cS3i (pc := 14) (Ky := kX9_in) dX9_other_14 rfl lnX9_89 okX9_in ⟨Nat.le_of_ble_eq_true rfl, Nat.le_of_ble_eq_true rfl⟩ (Nat.le_of_ble_eq_true rfl) (c_X9_in (by omega) (by omega) (by omega)) ?_
    rintro _ _ ⟨rfl, rfl⟩
    refine s_if_eq (pc := 17) 40 dX9_other_17 rfl (by omega) (fun h17 => ?_) (fun h17 => ?_)
    · refine s_bipush (pc := 40) (z := -2) dX9_other_40 rfl ?_
      refine cS1l (pc := 42) (Ky := kX9_no) dX9_other_42 rfl lnX9_251 okX9_no ⟨Nat.le_of_ble_eq_true rfl, Nat.le_of_ble_eq_true rfl⟩ (Nat.le_of_ble_eq_true rfl) (c_X9_no (by omega)) ?_
      rintro _ _ ⟨rfl, rfl⟩
      refine s_lreturn (pc := 45) dX9_other_45 rfl ?_
      first
        | exact ⟨by rw [if_neg (by omega)]; rfl, hF2.mono (by decide)⟩
        | exact ⟨by rw [if_pos (by omega)]; exact (frc_mul (by omega)).symm, ((hFa.wr (by decide)).wr (by decide)).tr (hF62.mono (by decide))⟩
    · refine s_iload_3 (pc := 20) dX9_other_20 ?_
      refine s_i2l (pc := 21) dX9_other_21 (by omega) ?_
      refine s_lconst_0 (pc := 22) dX9_other_22 ?_
      refine s_ldc2_w (pc := 23) dX9_other_23 rfl cnX9_103 ?_
      refine cS3i (pc := 26) (Ky := kX9_in) dX9_other_26 rfl lnX9_89 okX9_in ⟨Nat.le_of_ble_eq_true rfl, Nat.le_of_ble_eq_true rfl⟩ (Nat.le_of_ble_eq_true rfl) (c_X9_in (by omega) (by omega) (by omega)) ?_
      rintro _ _ ⟨rfl, rfl⟩
      refine s_if_eq (pc := 29) 40 dX9_other_29 rfl (by omega) (fun h29 => ?_) (fun h29 => ?_)
      · refine s_bipush (pc := 40) (z := -2) dX9_other_40 rfl ?_
        refine cS1l (pc := 42) (Ky := kX9_no) dX9_other_42 rfl lnX9_251 okX9_no ⟨Nat.le_of_ble_eq_true rfl, Nat.le_of_ble_eq_true rfl⟩ (Nat.le_of_ble_eq_true rfl) (c_X9_no (by omega)) ?_
        rintro _ _ ⟨rfl, rfl⟩
        refine s_lreturn (pc := 45) dX9_other_45 rfl ?_
        first
          | exact ⟨by rw [if_neg (by omega)]; rfl, hF2.mono (by decide)⟩
          | exact ⟨by rw [if_pos (by omega)]; exact (frc_mul (by omega)).symm, ((hFa.wr (by decide)).wr (by decide)).tr (hF62.mono (by decide))⟩
      · refine s_iload_4 (pc := 32) dX9_other_32 ?_
        refine cS1i (pc := 34) (Ky := kX9_isTwo) dX9_other_34 rfl lnX9_244 okX9_isTwo ⟨Nat.le_of_ble_eq_true rfl, Nat.le_of_ble_eq_true rfl⟩ (Nat.le_of_ble_eq_true rfl) (c_X9_isTwo (by omega)) ?_
        rintro _ _ ⟨rfl, rfl⟩
        refine s_if_ne (pc := 37) 46 dX9_other_37 rfl (by omega) (fun h37 => ?_) (fun h37 => ?_)
        · refine s_aload_0 (pc := 46) dX9_other_46 ?_
          refine cV0v (pc := 47) (Ky := kX9_tries) dX9_other_47 rfl lnX9_194 okX9_tries ⟨9, TX9, 40, rfl, rfl⟩ ⟨Nat.le_of_ble_eq_true rfl, Nat.le_of_ble_eq_true rfl⟩ (Nat.le_of_ble_eq_true rfl) (c_X9_tries (tx := tx) (n := n) (by rw [hF2.fn 43 rfl]; exact e43) (by rw [hF2.at 122 rfl 0]; exact e122) hn ht (by rw [hF2.fn 47 rfl]; exact e47) (by rw [hF2.fn 48 rfl]; exact e48) hhd hlv) ?_
          rintro ν47 ⟨hF47, hR47, hM47⟩
          have hko := cfg_KO hM47.1 (by omega)
          have hpw := p6144 hko.1
          have hsc := sc_in hko.1
          have hFa : Fr [42, 44, 45, 46, 49, 50, 51, 52, 53, 54, 55, 56, 123, 124, 125, 126, 127, 128, 129, 130, 131, 132, 133, 134] μ ν47 := (hF2.mono (by decide)).tr (hF47.mono (by decide))
          have hmp : (6144 : Int) ^ ((cfg tx n hd lv) 125 0).toNat * sc (cfg tx n hd lv) ≤ 6144 ^ ((cfg tx n hd lv) 125 0).toNat * 16 := Int.mul_le_mul_of_nonneg_left hsc.2.1 (by omega)
          have hmp0 : 0 < (6144 : Int) ^ ((cfg tx n hd lv) 125 0).toNat * sc (cfg tx n hd lv) := Int.mul_pos (by omega) (by omega)
          refine s_aload_0 (pc := 50) dX9_other_50 ?_
          refine s_iload_2 (pc := 51) dX9_other_51 ?_
          refine pfX9_174 (pc := 52) dX9_other_52 rfl ?_
          refine s_aload_0 (pc := 55) dX9_other_55 ?_
          refine s_iload_3 (pc := 56) dX9_other_56 ?_
          refine pfX9_177 (pc := 57) dX9_other_57 rfl ?_
          refine s_aload_0 (pc := 60) dX9_other_60 ?_
          refine s_iload_1 (pc := 61) dX9_other_61 ?_
          have hMh : MR (kO (cfg tx n hd lv) a b) (wr (wr ν47 126 0 a) 127 0 b) := (hM47.w126 (by omega)).w127 (by omega)
          have hkh := kO_KO (a := a) (b := b) hko (by omega) (by omega)
          have hai := am_at (κ := (cfg tx n hd lv)) hkh (by rw [kO_o (by decide) (by decide)]) (by rw [kO_o (by decide) (by decide)]) (p := p) (by omega) (show p < pPe tx n by omega)
          have hci := cost_in hko.1 hai.1 (by omega)
          refine cV1l (pc := 62) (Ky := kX9_amountNow) dX9_other_62 rfl lnX9_230 okX9_amountNow ⟨9, TX9, 40, rfl, rfl⟩ ⟨Nat.le_of_ble_eq_true rfl, Nat.le_of_ble_eq_true rfl⟩ (Nat.le_of_ble_eq_true rfl) (c_X9_amountNow hMh hkh.2 (by rw [kO_o (by decide) (by decide)]; show 0 ≤ p ∧ p < pPe tx n; omega)) ?_
          rintro _ ν62 ⟨rfl, hF62⟩
          rw [kO_sc]
          have hM62 := hMh.fr hF62 (by decide)
          refine s_aload_0 (pc := 65) dX9_other_65 ?_
          refine cV0l (pc := 66) (Ky := kX9_all) dX9_other_66 rfl lnX9_233 okX9_all ⟨9, TX9, 40, rfl, rfl⟩ ⟨Nat.le_of_ble_eq_true rfl, Nat.le_of_ble_eq_true rfl⟩ (Nat.le_of_ble_eq_true rfl) (c_X9_all hM62) ?_
          rintro _ _ ⟨rfl, rfl⟩
          rw [kO_sc, kO_o (c := 125) (by decide) (by decide)]
          refine s_iload_4 (pc := 69) dX9_other_69 ?_
          refine cS3l (pc := 71) (Ky := kX9_part) dX9_other_71 rfl lnX9_240 okX9_part ⟨Nat.le_of_ble_eq_true rfl, Nat.le_of_ble_eq_true rfl⟩ (Nat.le_of_ble_eq_true rfl) (c_X9_part (by omega) (by omega) (by omega)) ?_
          rintro _ _ ⟨rfl, rfl⟩
          refine s_lreturn (pc := 74) dX9_other_74 rfl ?_
          first
            | exact ⟨by rw [if_neg (by omega)]; rfl, hF2.mono (by decide)⟩
            | exact ⟨by rw [if_pos (by omega)]; exact (frc_mul (by omega)).symm, ((hFa.wr (by decide)).wr (by decide)).tr (hF62.mono (by decide))⟩
        · refine s_bipush (pc := 40) (z := -2) dX9_other_40 rfl ?_
          refine cS1l (pc := 42) (Ky := kX9_no) dX9_other_42 rfl lnX9_251 okX9_no ⟨Nat.le_of_ble_eq_true rfl, Nat.le_of_ble_eq_true rfl⟩ (Nat.le_of_ble_eq_true rfl) (c_X9_no (by omega)) ?_
          rintro _ _ ⟨rfl, rfl⟩
          refine s_lreturn (pc := 45) dX9_other_45 rfl ?_
          first
            | exact ⟨by rw [if_neg (by omega)]; rfl, hF2.mono (by decide)⟩
            | exact ⟨by rw [if_pos (by omega)]; exact (frc_mul (by omega)).symm, ((hFa.wr (by decide)).wr (by decide)).tr (hF62.mono (by decide))⟩
