/-! ===== the class's sheets ===== -/
theorem c_X7_find {f : Int} {μ : Mem} (h_f : -2147483648 ≤ f ∧ f < 2147483648) : Mc kX7_find [.inr (.inr 8), .inl f] μ (pI (fun z ν => -10 - f = z ∧ wr μ 120 0 f = ν)) := by
  refine Mc_of (by decide +kernel) (fun _ => Nat.le_of_ble_eq_true rfl) ?_
  show AW kX7_find 0 [some (.inr (.inr 8)), some (.inl f)] [] μ _
  refine s_aload_0 (pc := 0) dX7_find_0 ?_
  refine s_iload_1 (pc := 1) dX7_find_1 ?_
  refine pfX7_21 (pc := 2) dX7_find_2 rfl ?_
  refine s_bipush (pc := 5) (z := -10) dX7_find_5 rfl ?_
  refine s_iload_1 (pc := 7) dX7_find_7 ?_
  refine s_isub (pc := 8) dX7_find_8 ?_
  refine s_ireturn (pc := 9) dX7_find_9 rfl ?_
  exact ⟨rfl, rfl⟩
theorem c_X7_isLost {s : Int} {μ : Mem} (hs : 0 ≤ s ∧ s ≤ 3) (hz : -1 ≤ μ 36 s ∧ μ 36 s ≤ 60) : Mc kX7_isLost [.inr (.inr 8), .inl s] μ (pI (fun z ν => (if μ 36 s = -1 then 1 else 0) = z ∧ μ = ν)) := by
  refine Mc_of (by decide +kernel) (fun _ => Nat.le_of_ble_eq_true rfl) ?_
  show AW kX7_isLost 0 [some (.inr (.inr 8)), some (.inl s)] [] μ _
  refine s_aload_0 (pc := 0) dX7_isLost_0 ?_
  refine gfX7_11 (pc := 1) dX7_isLost_1 rfl ?_
  refine s_iload_1 (pc := 4) dX7_isLost_4 ?_
  refine z_iaload (pc := 5) dX7_isLost_5 ly_36 (by omega) (by omega) ?_
  refine s_iconst_m1 (pc := 6) dX7_isLost_6 ?_
  refine s_icmp_ne (pc := 7) 14 dX7_isLost_7 rfl (by omega) (by omega) (fun h7 => ?_) (fun h7 => ?_)
  · refine s_iconst_0 (pc := 14) dX7_isLost_14 ?_
    refine s_zreturn (pc := 15) dX7_isLost_15 rfl (by omega) ?_
    exact ⟨by omega, rfl⟩
  · refine s_iconst_1 (pc := 10) dX7_isLost_10 ?_
    refine s_goto (pc := 11) 15 dX7_isLost_11 rfl ?_
    refine s_zreturn (pc := 15) dX7_isLost_15 rfl (by omega) ?_
    exact ⟨by omega, rfl⟩
theorem c_X7_drop {s : Int} {μ : Mem} (hs : 0 ≤ s ∧ s ≤ 3) : Mc kX7_drop [.inr (.inr 8), .inl s] μ (pI (fun z ν => μ 36 s = z ∧ wr μ 36 s (-1) = ν)) := by
  refine Mc_of (by decide +kernel) (fun _ => Nat.le_of_ble_eq_true rfl) ?_
  show AW kX7_drop 0 [some (.inr (.inr 8)), some (.inl s), none] [] μ _
  refine s_aload_0 (pc := 0) dX7_drop_0 ?_
  refine gfX7_11 (pc := 1) dX7_drop_1 rfl ?_
  refine s_iload_1 (pc := 4) dX7_drop_4 ?_
  refine z_iaload (pc := 5) dX7_drop_5 ly_36 (by omega) (by omega) ?_
  refine s_istore_2 (pc := 6) dX7_drop_6 (Nat.le_of_ble_eq_true rfl) rfl ?_
  refine s_aload_0 (pc := 7) dX7_drop_7 ?_
  refine gfX7_11 (pc := 8) dX7_drop_8 rfl ?_
  refine s_iload_1 (pc := 11) dX7_drop_11 ?_
  refine s_iconst_m1 (pc := 12) dX7_drop_12 ?_
  refine z_iastore (pc := 13) dX7_drop_13 ly_36 ip_36 (by omega) (by omega) ?_
  refine s_iload_2 (pc := 14) dX7_drop_14 ?_
  refine s_ireturn (pc := 15) dX7_drop_15 rfl ?_
  exact ⟨rfl, rfl⟩
theorem c_X7_lookUp {s form i : Int} {μ : Mem} (hs : 0 ≤ s ∧ s ≤ 3) (hz : -1 ≤ μ 36 s ∧ μ 36 s ≤ 60) (hf : 0 ≤ form ∧ form ≤ 2) (hf7 : -2147483648 ≤ μ 37 s ∧ μ 37 s < 2147483648) (h_i : -2147483648 ≤ i ∧ i < 2147483648) : Mc kX7_lookUp [.inr (.inr 8), .inl s, .inl form, .inl i] μ (pI (fun z ν => (μ 36 s = -1 ∧ 1 = z ∧ μ = ν) ∨ ((μ 36 s ≠ -1 ∧ μ 37 s ≠ form) ∧ 3 = z ∧ μ = ν) ∨ ((μ 36 s ≠ -1 ∧ μ 37 s = form ∧ (i < 0 ∨ μ 36 s ≤ i)) ∧ 2 = z ∧ μ = ν) ∨ ((μ 36 s ≠ -1 ∧ μ 37 s = form ∧ 0 ≤ i ∧ i < μ 36 s) ∧ 0 = z ∧ μ = ν))) := by
  refine Mc_of (by decide +kernel) (fun _ => Nat.le_of_ble_eq_true rfl) ?_
  show AW kX7_lookUp 0 [some (.inr (.inr 8)), some (.inl s), some (.inl form), some (.inl i)] [] μ _
  refine s_aload_0 (pc := 0) dX7_lookUp_0 ?_
  refine s_iload_1 (pc := 1) dX7_lookUp_1 ?_
  refine cV1i (pc := 2) (Ky := kX7_isLost) dX7_lookUp_2 rfl lnX7_25 okX7_isLost ⟨7, TX7, 4, rfl, rfl⟩ ⟨Nat.le_of_ble_eq_true rfl, Nat.le_of_ble_eq_true rfl⟩ (Nat.le_of_ble_eq_true rfl) (c_X7_isLost hs hz) ?_
  rintro _ _ ⟨rfl, rfl⟩
  refine s_if_eq (pc := 5) 10 dX7_lookUp_5 rfl (by omega) (fun h5 => ?_) (fun h5 => ?_)
  · refine s_aload_0 (pc := 10) dX7_lookUp_10 ?_
    refine gfX7_15 (pc := 11) dX7_lookUp_11 rfl ?_
    refine s_iload_1 (pc := 14) dX7_lookUp_14 ?_
    refine z_iaload (pc := 15) dX7_lookUp_15 ly_37 (by omega) (by omega) ?_
    refine s_iload_2 (pc := 16) dX7_lookUp_16 ?_
    refine s_icmp_eq (pc := 17) 22 dX7_lookUp_17 rfl (by omega) (by omega) (fun h17 => ?_) (fun h17 => ?_)
    · refine s_iload_3 (pc := 22) dX7_lookUp_22 ?_
      refine s_if_lt (pc := 23) 36 dX7_lookUp_23 rfl (by omega) (fun h23 => ?_) (fun h23 => ?_)
      · refine s_iconst_2 (pc := 36) dX7_lookUp_36 ?_
        refine s_goto (pc := 37) 41 dX7_lookUp_37 rfl ?_
        refine s_ireturn (pc := 41) dX7_lookUp_41 rfl ?_
        first | exact Or.inl (⟨by omega, by omega, rfl⟩) | exact Or.inr (Or.inl (⟨by omega, by omega, rfl⟩)) | exact Or.inr (Or.inr (Or.inl (⟨by omega, by omega, rfl⟩))) | exact Or.inr (Or.inr (Or.inr (⟨by omega, by omega, rfl⟩))) | (exfalso; omega)
      · refine s_iload_3 (pc := 26) dX7_lookUp_26 ?_
        refine s_aload_0 (pc := 27) dX7_lookUp_27 ?_
        refine gfX7_11 (pc := 28) dX7_lookUp_28 rfl ?_
        refine s_iload_1 (pc := 31) dX7_lookUp_31 ?_
        refine z_iaload (pc := 32) dX7_lookUp_32 ly_36 (by omega) (by omega) ?_
        refine s_icmp_lt (pc := 33) 40 dX7_lookUp_33 rfl (by omega) (by omega) (fun h33 => ?_) (fun h33 => ?_)
        · refine s_iconst_0 (pc := 40) dX7_lookUp_40 ?_
          refine s_ireturn (pc := 41) dX7_lookUp_41 rfl ?_
          first | exact Or.inl (⟨by omega, by omega, rfl⟩) | exact Or.inr (Or.inl (⟨by omega, by omega, rfl⟩)) | exact Or.inr (Or.inr (Or.inl (⟨by omega, by omega, rfl⟩))) | exact Or.inr (Or.inr (Or.inr (⟨by omega, by omega, rfl⟩))) | (exfalso; omega)
        · refine s_iconst_2 (pc := 36) dX7_lookUp_36 ?_
          refine s_goto (pc := 37) 41 dX7_lookUp_37 rfl ?_
          refine s_ireturn (pc := 41) dX7_lookUp_41 rfl ?_
          first | exact Or.inl (⟨by omega, by omega, rfl⟩) | exact Or.inr (Or.inl (⟨by omega, by omega, rfl⟩)) | exact Or.inr (Or.inr (Or.inl (⟨by omega, by omega, rfl⟩))) | exact Or.inr (Or.inr (Or.inr (⟨by omega, by omega, rfl⟩))) | (exfalso; omega)
    · refine s_iconst_3 (pc := 20) dX7_lookUp_20 ?_
      refine s_ireturn (pc := 21) dX7_lookUp_21 rfl ?_
      first | exact Or.inl (⟨by omega, by omega, rfl⟩) | exact Or.inr (Or.inl (⟨by omega, by omega, rfl⟩)) | exact Or.inr (Or.inr (Or.inl (⟨by omega, by omega, rfl⟩))) | exact Or.inr (Or.inr (Or.inr (⟨by omega, by omega, rfl⟩))) | (exfalso; omega)
  · refine s_iconst_1 (pc := 8) dX7_lookUp_8 ?_
    refine s_ireturn (pc := 9) dX7_lookUp_9 rfl ?_
    first | exact Or.inl (⟨by omega, by omega, rfl⟩) | exact Or.inr (Or.inl (⟨by omega, by omega, rfl⟩)) | exact Or.inr (Or.inr (Or.inl (⟨by omega, by omega, rfl⟩))) | exact Or.inr (Or.inr (Or.inr (⟨by omega, by omega, rfl⟩))) | (exfalso; omega)
theorem c_X7_hasItems {s i n : Int} {μ : Mem} (hs : 0 ≤ s ∧ s ≤ 3) (hz : -1 ≤ μ 36 s ∧ μ 36 s ≤ 60) (h_i : -2147483648 ≤ i ∧ i < 2147483648) (h_n : -2147483648 ≤ n ∧ n < 2147483648) : Mc kX7_hasItems [.inr (.inr 8), .inl s, .inl i, .inl n] μ (pI (fun z ν => (if 0 ≤ i ∧ 0 ≤ n ∧ i ≤ μ 36 s ∧ n ≤ μ 36 s - i then 1 else 0) = z ∧ μ = ν)) := by
  refine Mc_of (by decide +kernel) (fun _ => Nat.le_of_ble_eq_true rfl) ?_
  show AW kX7_hasItems 0 [some (.inr (.inr 8)), some (.inl s), some (.inl i), some (.inl n)] [] μ _
  refine s_iload_2 (pc := 0) dX7_hasItems_0 ?_
  refine s_if_lt (pc := 1) 34 dX7_hasItems_1 rfl (by omega) (fun h1 => ?_) (fun h1 => ?_)
  · refine s_iconst_0 (pc := 34) dX7_hasItems_34 ?_
    refine s_zreturn (pc := 35) dX7_hasItems_35 rfl (by omega) ?_
    refine ⟨?_, rfl⟩
    omega
  · refine s_iload_3 (pc := 4) dX7_hasItems_4 ?_
    refine s_if_lt (pc := 5) 34 dX7_hasItems_5 rfl (by omega) (fun h5 => ?_) (fun h5 => ?_)
    · refine s_iconst_0 (pc := 34) dX7_hasItems_34 ?_
      refine s_zreturn (pc := 35) dX7_hasItems_35 rfl (by omega) ?_
      refine ⟨?_, rfl⟩
      omega
    · refine s_iload_2 (pc := 8) dX7_hasItems_8 ?_
      refine s_aload_0 (pc := 9) dX7_hasItems_9 ?_
      refine gfX7_11 (pc := 10) dX7_hasItems_10 rfl ?_
      refine s_iload_1 (pc := 13) dX7_hasItems_13 ?_
      refine z_iaload (pc := 14) dX7_hasItems_14 ly_36 (by omega) (by omega) ?_
      refine s_icmp_gt (pc := 15) 34 dX7_hasItems_15 rfl (by omega) (by omega) (fun h15 => ?_) (fun h15 => ?_)
      · refine s_iconst_0 (pc := 34) dX7_hasItems_34 ?_
        refine s_zreturn (pc := 35) dX7_hasItems_35 rfl (by omega) ?_
        refine ⟨?_, rfl⟩
        omega
      · refine s_iload_3 (pc := 18) dX7_hasItems_18 ?_
        refine s_aload_0 (pc := 19) dX7_hasItems_19 ?_
        refine gfX7_11 (pc := 20) dX7_hasItems_20 rfl ?_
        refine s_iload_1 (pc := 23) dX7_hasItems_23 ?_
        refine z_iaload (pc := 24) dX7_hasItems_24 ly_36 (by omega) (by omega) ?_
        refine s_iload_2 (pc := 25) dX7_hasItems_25 ?_
        refine s_isub (pc := 26) dX7_hasItems_26 ?_
        refine s_icmp_gt (pc := 27) 34 dX7_hasItems_27 rfl (by omega) (by omega) (fun h27 => ?_) (fun h27 => ?_)
        · refine s_iconst_0 (pc := 34) dX7_hasItems_34 ?_
          refine s_zreturn (pc := 35) dX7_hasItems_35 rfl (by omega) ?_
          refine ⟨?_, rfl⟩
          omega
        · refine s_iconst_1 (pc := 30) dX7_hasItems_30 ?_
          refine s_goto (pc := 31) 35 dX7_hasItems_31 rfl ?_
          refine s_zreturn (pc := 35) dX7_hasItems_35 rfl (by omega) ?_
          refine ⟨?_, rfl⟩
          omega
theorem c_X7_item {s i : Int} {μ : Mem} (hs : 0 ≤ s ∧ s ≤ 3) (hi : 0 ≤ i ∧ i < 60) : Mc kX7_item [.inr (.inr 8), .inl s, .inl i] μ (pI (fun z ν => μ 38 (60 * s + i) = z ∧ μ = ν)) := by
  refine Mc_of (by decide +kernel) (fun _ => Nat.le_of_ble_eq_true rfl) ?_
  show AW kX7_item 0 [some (.inr (.inr 8)), some (.inl s), some (.inl i)] [] μ _
  refine s_aload_0 (pc := 0) dX7_item_0 ?_
  refine gfX7_18 (pc := 1) dX7_item_1 rfl ?_
  refine s_bipush (pc := 4) (z := 60) dX7_item_4 rfl ?_
  refine s_iload_1 (pc := 6) dX7_item_6 ?_
  refine s_imul (pc := 7) dX7_item_7 ?_
  refine s_iload_2 (pc := 8) dX7_item_8 ?_
  refine s_iadd (pc := 9) dX7_item_9 ?_
  refine z_iaload (pc := 10) dX7_item_10 ly_38 (by omega) (by omega) ?_
  refine s_ireturn (pc := 11) dX7_item_11 rfl ?_
  exact ⟨rfl, rfl⟩
theorem c_X7_cut {form v : Int} {μ : Mem} (h_form : -2147483648 ≤ form ∧ form < 2147483648) (h_v : -2147483648 ≤ v ∧ v < 2147483648) : Mc kX7_cut [.inl form, .inl v] μ (pI (fun z ν => cutF form v = z ∧ μ = ν)) := by
  refine Mc_of (by decide +kernel) (fun _ => Nat.le_of_ble_eq_true rfl) ?_
  show AW kX7_cut 0 [some (.inl form), some (.inl v)] [] μ _
  refine s_iload_0 (pc := 0) dX7_cut_0 ?_
  by_cases f0 : form = 0
  · refine s_lookup (pc := 1) (off := 27) 28 dX7_cut_1 (by omega) (by decide) (by rw [f0]; decide) rfl ?_
    refine s_iload_1 (pc := 28) dX7_cut_28 ?_
    refine s_i2b (pc := 29) dX7_cut_29 ?_
    refine s_ireturn (pc := 30) dX7_cut_30 rfl ?_
    exact ⟨by rw [cutF, if_pos f0], rfl⟩
  · by_cases f1 : form = 1
    · refine s_lookup (pc := 1) (off := 30) 31 dX7_cut_1 (by omega) (by decide) (by rw [f1]; decide) rfl ?_
      refine s_iload_1 (pc := 31) dX7_cut_31 ?_
      refine s_i2s (pc := 32) dX7_cut_32 ?_
      refine s_ireturn (pc := 33) dX7_cut_33 rfl ?_
      exact ⟨by rw [cutF, if_neg f0, if_pos f1], rfl⟩
    · refine s_lookup (pc := 1) (off := 33) 34 dX7_cut_1 (by omega) (by decide) ?_ rfl ?_
      · show Op.lookupswitch.offset [((0 : Int), (27 : Int)), ((1 : Int), (30 : Int))] 33 form = 33
        rw [Op.lookupswitch.offset_cons, if_neg (fun q => f0 q.symm), Op.lookupswitch.offset_cons, if_neg (fun q => f1 q.symm)]
        rfl
      refine s_iload_1 (pc := 34) dX7_cut_34 ?_
      refine s_ireturn (pc := 35) dX7_cut_35 rfl ?_
      exact ⟨by rw [cutF, if_neg f0, if_neg f1], rfl⟩
theorem c_X7_put {s i v : Int} {μ : Mem} (hs : 0 ≤ s ∧ s ≤ 3) (hi : 0 ≤ i ∧ i < 60) (hf7 : -2147483648 ≤ μ 37 s ∧ μ 37 s < 2147483648) (h_v : -2147483648 ≤ v ∧ v < 2147483648) : Mc kX7_put [.inr (.inr 8), .inl s, .inl i, .inl v] μ (pV (fun ν => wr μ 38 (60 * s + i) (cutF (μ 37 s) v) = ν)) := by
  refine Mc_of (by decide +kernel) (fun _ => Nat.le_of_ble_eq_true rfl) ?_
  show AW kX7_put 0 [some (.inr (.inr 8)), some (.inl s), some (.inl i), some (.inl v)] [] μ _
  refine s_aload_0 (pc := 0) dX7_put_0 ?_
  refine gfX7_18 (pc := 1) dX7_put_1 rfl ?_
  refine s_bipush (pc := 4) (z := 60) dX7_put_4 rfl ?_
  refine s_iload_1 (pc := 6) dX7_put_6 ?_
  refine s_imul (pc := 7) dX7_put_7 ?_
  refine s_iload_2 (pc := 8) dX7_put_8 ?_
  refine s_iadd (pc := 9) dX7_put_9 ?_
  refine s_aload_0 (pc := 10) dX7_put_10 ?_
  refine gfX7_15 (pc := 11) dX7_put_11 rfl ?_
  refine s_iload_1 (pc := 14) dX7_put_14 ?_
  refine z_iaload (pc := 15) dX7_put_15 ly_37 (by omega) (by omega) ?_
  refine s_iload_3 (pc := 16) dX7_put_16 ?_
  refine cS2i (pc := 17) (Ky := kX7_cut) dX7_put_17 rfl lnX7_29 okX7_cut ⟨Nat.le_of_ble_eq_true rfl, Nat.le_of_ble_eq_true rfl⟩ (Nat.le_of_ble_eq_true rfl) (c_X7_cut hf7 h_v) ?_
  rintro _ _ ⟨rfl, rfl⟩
  refine z_iastore (pc := 20) dX7_put_20 ly_38 ip_38 (by omega) (by omega) ?_
  refine s_return (pc := 21) dX7_put_21 rfl ?_
  exact rfl
theorem c_X7_move {s i t j n : Int} {μ : Mem} (hs : 0 ≤ s ∧ s ≤ 3) (ht : 0 ≤ t ∧ t ≤ 3) (hn : 0 ≤ i ∧ 0 ≤ j ∧ 0 ≤ n ∧ i + n ≤ 60 ∧ j + n ≤ 60) : Mc kX7_move [.inr (.inr 8), .inl s, .inl i, .inl t, .inl j, .inl n] μ (pV (fun ν => wa μ 38 (cpy (μ 38) (μ 38) (60 * s + i) (60 * t + j) n) = ν)) := by
  refine Mc_of (by decide +kernel) (fun _ => Nat.le_of_ble_eq_true rfl) ?_
  show AW kX7_move 0 [some (.inr (.inr 8)), some (.inl s), some (.inl i), some (.inl t), some (.inl j), some (.inl n)] [] μ _
  refine s_aload_0 (pc := 0) dX7_move_0 ?_
  refine gfX7_18 (pc := 1) dX7_move_1 rfl ?_
  refine s_bipush (pc := 4) (z := 60) dX7_move_4 rfl ?_
  refine s_iload_1 (pc := 6) dX7_move_6 ?_
  refine s_imul (pc := 7) dX7_move_7 ?_
  refine s_iload_2 (pc := 8) dX7_move_8 ?_
  refine s_iadd (pc := 9) dX7_move_9 ?_
  refine s_aload_0 (pc := 10) dX7_move_10 ?_
  refine gfX7_18 (pc := 11) dX7_move_11 rfl ?_
  refine s_bipush (pc := 14) (z := 60) dX7_move_14 rfl ?_
  refine s_iload_3 (pc := 16) dX7_move_16 ?_
  refine s_imul (pc := 17) dX7_move_17 ?_
  refine s_iload_4 (pc := 18) dX7_move_18 ?_
  refine s_iadd (pc := 20) dX7_move_20 ?_
  refine s_iload_5 (pc := 21) dX7_move_21 ?_
  refine z_copy (pc := 23) dX7_move_23 rfl lnX7_33 ly_38 ly_38 ip_38 (Nat.le_of_ble_eq_true rfl) (Nat.le_of_ble_eq_true rfl) (by omega) (by omega) (by omega) (by omega) (by omega) ?_
  refine s_return (pc := 26) dX7_move_26 rfl ?_
  exact rfl
theorem lp_X7_renew {s form n : Int} {μ : Mem} (hs : 0 ≤ s ∧ s ≤ 3) : ∀ (f : Nat) (i : Int), (0 ≤ i) → (i ≤ 60) → 60 - i < (f : Int) → AW kX7_renew 17 [some (.inr (.inr 8)), some (.inl s), some (.inl form), some (.inl n), some (.inl i)] [] (wa (wr (wr μ 37 s form) 36 s n) 38 (fun k => if 60 * s ≤ k ∧ k < 60 * s + i then 0 else μ 38 k)) (pV (fun ν => wa (wr (wr μ 37 s form) 36 s n) 38 (fun k => if 60 * s ≤ k ∧ k < 60 * s + 60 then 0 else μ 38 k) = ν)) := by
  intro f
  induction f with
  | zero =>
    intro i h0 h1 hm
    exfalso; omega
  | succ f ih =>
    intro i h0 h1 hm
    refine s_iload_4 (pc := 17) dX7_renew_17 ?_
    refine s_bipush (pc := 19) (z := 60) dX7_renew_19 rfl ?_
    refine s_icmp_ge (pc := 21) 43 dX7_renew_21 rfl (by omega) (by omega) (fun h21 => ?_) (fun h21 => ?_)
    · refine s_return (pc := 43) dX7_renew_43 rfl ?_
      cases (show i = 60 by omega)
      exact rfl
    · refine s_aload_0 (pc := 24) dX7_renew_24 ?_
      refine gfX7_18 (pc := 25) dX7_renew_25 rfl ?_
      refine s_bipush (pc := 28) (z := 60) dX7_renew_28 rfl ?_
      refine s_iload_1 (pc := 30) dX7_renew_30 ?_
      refine s_imul (pc := 31) dX7_renew_31 ?_
      refine s_iload_4 (pc := 32) dX7_renew_32 ?_
      refine s_iadd (pc := 34) dX7_renew_34 ?_
      refine s_iconst_0 (pc := 35) dX7_renew_35 ?_
      refine z_iastore (pc := 36) dX7_renew_36 ly_38 ip_38 (by omega) (by omega) ?_
      refine s_iinc_4 (pc := 37) dX7_renew_37 (Nat.le_of_ble_eq_true rfl) rfl ?_
      refine s_goto (pc := 40) 17 dX7_renew_40 rfl ?_
      refine s_mem ?_ (ih (i + 1) (by omega) (by omega) (by omega))
      rw [wr_wa]
      refine wa_ext fun j => ?_
      by_cases hj : j = 60 * s + i
      · rw [if_pos hj, if_pos (by omega)]
      · rw [if_neg hj]
        by_cases hj2 : 60 * s ≤ j ∧ j < 60 * s + i
        · rw [if_pos hj2, if_pos (by omega)]
        · rw [if_neg hj2, if_neg (by omega)]
theorem c_X7_renew {s form n : Int} {μ : Mem} (hs : 0 ≤ s ∧ s ≤ 3) : Mc kX7_renew [.inr (.inr 8), .inl s, .inl form, .inl n] μ (pV (fun ν => wa (wr (wr μ 37 s form) 36 s n) 38 (fun k => if 60 * s ≤ k ∧ k < 60 * s + 60 then 0 else μ 38 k) = ν)) := by
  refine Mc_of (by decide +kernel) (fun _ => Nat.le_of_ble_eq_true rfl) ?_
  show AW kX7_renew 0 [some (.inr (.inr 8)), some (.inl s), some (.inl form), some (.inl n), none] [] μ _
  refine s_aload_0 (pc := 0) dX7_renew_0 ?_
  refine gfX7_15 (pc := 1) dX7_renew_1 rfl ?_
  refine s_iload_1 (pc := 4) dX7_renew_4 ?_
  refine s_iload_2 (pc := 5) dX7_renew_5 ?_
  refine z_iastore (pc := 6) dX7_renew_6 ly_37 ip_37 (by omega) (by omega) ?_
  refine s_aload_0 (pc := 7) dX7_renew_7 ?_
  refine gfX7_11 (pc := 8) dX7_renew_8 rfl ?_
  refine s_iload_1 (pc := 11) dX7_renew_11 ?_
  refine s_iload_3 (pc := 12) dX7_renew_12 ?_
  refine z_iastore (pc := 13) dX7_renew_13 ly_36 ip_36 (by omega) (by omega) ?_
  refine s_iconst_0 (pc := 14) dX7_renew_14 ?_
  refine s_istore_4 (pc := 15) dX7_renew_15 (Nat.le_of_ble_eq_true rfl) rfl ?_
  refine s_mem ?_ (lp_X7_renew hs 61 0 (by omega) (by omega) (by omega))
  refine (wa_self fun j => ?_).symm
  rw [if_neg (by omega), wr_n (by decide), wr_n (by decide)]
