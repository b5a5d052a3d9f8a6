/-! ===== the class's notes of what was seen ===== -/
def SQ (κ μ : Mem) : Prop := SW κ ∧ μ 119 0 = κ 135 0 ∧ ∀ j : Int, 0 ≤ j → j < κ 135 0 → μ 31 j = κ 58 j ∧ μ 32 j = κ 59 j ∧ μ 33 j = κ 60 j ∧ μ 34 j = κ 61 j ∧ μ 35 j = κ 62 j
theorem SQ.fr {κ μ ν : Mem} {F : List Nat} (hS : SQ κ μ) (hF : Fr F μ ν) (h : F.all (fun c => decide (c ∉ [31, 32, 33, 34, 35, 119])) = true) : SQ κ ν := by
  have hc : ∀ c : Nat, c ∈ [31, 32, 33, 34, 35, 119] → ν c = μ c := fun c h1 => by
    refine hF c (fun q => ?_)
    have := List.all_eq_true.mp h c q
    simp only [decide_eq_true_eq] at this
    exact this h1
  unfold SQ
  rw [hc 31 (by decide), hc 32 (by decide), hc 33 (by decide), hc 34 (by decide), hc 35 (by decide), hc 119 (by decide)]
  exact hS
theorem SQ.saw {κ μ : Mem} {a b c d e : Int} (h : SQ κ μ) (ho : sawOk a b c d e) (hf : κ 135 0 ≠ 60) : SQ (sawF κ a b c d e).1 (wr (wr (wr (wr (wr (wr μ 31 (κ 135 0) a) 32 (κ 135 0) b) 33 (κ 135 0) c) 34 (κ 135 0) d) 35 (κ 135 0) e) 119 0 (κ 135 0 + 1)) := by
  have hW := h.1.saw (a := a) (b := b) (c := c) (d := d) (e := e)
  rw [sawF, if_pos ho, if_neg hf] at hW ⊢
  dsimp only at hW ⊢
  refine ⟨hW, ?_, fun j j0 j1 => ?_⟩
  · unfold sawM; rw [wr_s, wr_s, if_pos rfl, if_pos rfl]
  · have h135 : sawM κ a b c d e 135 0 = κ 135 0 + 1 := by unfold sawM; rw [wr_s, if_pos rfl]
    rw [h135] at j1
    have := h.2.2 j j0
    unfold sawM
    simp (decide := true) only [wr_s, wr_n]
    by_cases hj : j = κ 135 0
    · simp only [if_pos hj, and_self]
    · simp only [if_neg hj]
      exact this (by omega)
theorem c_X5_add {κ : Mem} {a b c d e : Int} {μ : Mem} (hS : SQ κ μ) (ho : sawOk a b c d e) : Mc kX5_add [.inr (.inr 7), .inl a, .inl b, .inl c, .inl d, .inl e] μ (pI (fun z ν => (if κ 135 0 = 60 then 0 else 1) = z ∧ SQ (sawF κ a b c d e).1 ν ∧ Fr [31, 32, 33, 34, 35, 119] μ ν)) := by
  refine Mc_of (by decide +kernel) (fun _ => Nat.le_of_ble_eq_true rfl) ?_
  show AW kX5_add 0 [some (.inr (.inr 7)), some (.inl a), some (.inl b), some (.inl c), some (.inl d), some (.inl e)] [] μ _
  obtain ⟨⟨h60, hr⟩, c119, hc⟩ := id hS
  refine s_aload_0 (pc := 0) dX5_add_0 ?_
  refine gfX5_27 (pc := 1) dX5_add_1 rfl ?_
  try simp (decide := true) only [wr_s, wr_n, wa_s, wa_n, mg_i, mg_o, if_true, eq_self, reduceIte]
  try rw [c119]
  refine s_bipush (pc := 4) (z := 60) dX5_add_4 rfl ?_
  refine s_icmp_lt (pc := 6) 11 dX5_add_6 rfl (by omega) (by omega) (fun h6 => ?_) (fun h6 => ?_)
  · refine s_aload_0 (pc := 11) dX5_add_11 ?_
    refine gfX5_9 (pc := 12) dX5_add_12 rfl ?_
    refine s_aload_0 (pc := 15) dX5_add_15 ?_
    refine gfX5_27 (pc := 16) dX5_add_16 rfl ?_
    try simp (decide := true) only [wr_s, wr_n, wa_s, wa_n, mg_i, mg_o, if_true, eq_self, reduceIte]
    try rw [c119]
    refine s_iload_1 (pc := 19) dX5_add_19 ?_
    refine z_iastore (pc := 20) dX5_add_20 ly_31 ip_31 (by omega) (by omega) ?_
    refine s_aload_0 (pc := 21) dX5_add_21 ?_
    refine gfX5_15 (pc := 22) dX5_add_22 rfl ?_
    refine s_aload_0 (pc := 25) dX5_add_25 ?_
    refine gfX5_27 (pc := 26) dX5_add_26 rfl ?_
    try simp (decide := true) only [wr_s, wr_n, wa_s, wa_n, mg_i, mg_o, if_true, eq_self, reduceIte]
    try rw [c119]
    refine s_iload_2 (pc := 29) dX5_add_29 ?_
    refine z_iastore (pc := 30) dX5_add_30 ly_32 ip_32 (by omega) (by omega) ?_
    refine s_aload_0 (pc := 31) dX5_add_31 ?_
    refine gfX5_18 (pc := 32) dX5_add_32 rfl ?_
    refine s_aload_0 (pc := 35) dX5_add_35 ?_
    refine gfX5_27 (pc := 36) dX5_add_36 rfl ?_
    try simp (decide := true) only [wr_s, wr_n, wa_s, wa_n, mg_i, mg_o, if_true, eq_self, reduceIte]
    try rw [c119]
    refine s_iload_3 (pc := 39) dX5_add_39 ?_
    refine z_iastore (pc := 40) dX5_add_40 ly_33 ip_33 (by omega) (by omega) ?_
    refine s_aload_0 (pc := 41) dX5_add_41 ?_
    refine gfX5_21 (pc := 42) dX5_add_42 rfl ?_
    refine s_aload_0 (pc := 45) dX5_add_45 ?_
    refine gfX5_27 (pc := 46) dX5_add_46 rfl ?_
    try simp (decide := true) only [wr_s, wr_n, wa_s, wa_n, mg_i, mg_o, if_true, eq_self, reduceIte]
    try rw [c119]
    refine s_iload_4 (pc := 49) dX5_add_49 ?_
    refine z_iastore (pc := 51) dX5_add_51 ly_34 ip_34 (by omega) (by omega) ?_
    refine s_aload_0 (pc := 52) dX5_add_52 ?_
    refine gfX5_24 (pc := 53) dX5_add_53 rfl ?_
    refine s_aload_0 (pc := 56) dX5_add_56 ?_
    refine gfX5_27 (pc := 57) dX5_add_57 rfl ?_
    try simp (decide := true) only [wr_s, wr_n, wa_s, wa_n, mg_i, mg_o, if_true, eq_self, reduceIte]
    try rw [c119]
    refine s_iload_5 (pc := 60) dX5_add_60 ?_
    refine z_iastore (pc := 62) dX5_add_62 ly_35 ip_35 (by omega) (by omega) ?_
    refine s_aload_0 (pc := 63) dX5_add_63 ?_
    refine s_dup (pc := 64) dX5_add_64 rfl ?_
    refine gfX5_27 (pc := 65) dX5_add_65 rfl ?_
    try simp (decide := true) only [wr_s, wr_n, wa_s, wa_n, mg_i, mg_o, if_true, eq_self, reduceIte]
    try rw [c119]
    refine s_iconst_1 (pc := 68) dX5_add_68 ?_
    refine s_iadd (pc := 69) dX5_add_69 ?_
    refine pfX5_27 (pc := 70) dX5_add_70 rfl ?_
    refine s_iconst_1 (pc := 73) dX5_add_73 ?_
    refine s_zreturn (pc := 74) dX5_add_74 rfl (by omega) ?_
    first
      | (refine ⟨if_pos (by omega), ?_, Fr.rf⟩
         rw [sawF, if_pos ho, if_pos (by omega)]
         exact hS
         done)
      | (refine ⟨if_neg (by omega), hS.saw ho (by omega), ?_⟩
         exact (((((Fr.rf.wr (by decide)).wr (by decide)).wr (by decide)).wr (by decide)).wr (by decide)).wr (by decide))
  · refine s_iconst_0 (pc := 9) dX5_add_9 ?_
    refine s_zreturn (pc := 10) dX5_add_10 rfl (by omega) ?_
    first
      | (refine ⟨if_pos (by omega), ?_, Fr.rf⟩
         rw [sawF, if_pos ho, if_pos (by omega)]
         exact hS
         done)
      | (refine ⟨if_neg (by omega), hS.saw ho (by omega), ?_⟩
         exact (((((Fr.rf.wr (by decide)).wr (by decide)).wr (by decide)).wr (by decide)).wr (by decide)).wr (by decide))
theorem lp_X5_lt {κ μ : Mem} (hS : SQ κ μ) : ∀ (f : Nat) (j : Int), (0 ≤ j) → (j ≤ κ 135 0) → κ 135 0 - j < (f : Int) → AW kX5_laughedTogether 4 [some (.inr (.inr 7)), some (.inl (sm (κ 62) j.toNat)), some (.inl j)] [] μ (pI (fun z ν => sm (κ 62) (κ 135 0).toNat = z ∧ μ = ν)) := by
  intro f
  induction f with
  | zero =>
    intro j h0 h1 hm
    exfalso; omega
  | succ f ih =>
    intro j h0 h1 hm
    obtain ⟨⟨h60, hr⟩, c119, hc⟩ := id hS
    have hsu := sm_succ (f := κ 62) h0
    refine s_iload_2 (pc := 4) dX5_laughedTogether_4 ?_
    refine s_aload_0 (pc := 5) dX5_laughedTogether_5 ?_
    refine gfX5_27 (pc := 6) dX5_laughedTogether_6 rfl ?_
    try rw [c119]
    refine s_icmp_ge (pc := 9) 27 dX5_laughedTogether_9 rfl (by omega) (by omega) (fun h9 => ?_) (fun h9 => ?_)
    · refine s_iload_1 (pc := 27) dX5_laughedTogether_27 ?_
      refine s_ireturn (pc := 28) dX5_laughedTogether_28 rfl ?_
      cases (show j = κ 135 0 by omega)
      exact ⟨rfl, rfl⟩
    · obtain ⟨q1, q2, q3, q4, q5⟩ := hc j h0 (by omega)
      refine s_iload_1 (pc := 12) dX5_laughedTogether_12 ?_
      refine s_aload_0 (pc := 13) dX5_laughedTogether_13 ?_
      refine gfX5_24 (pc := 14) dX5_laughedTogether_14 rfl ?_
      refine s_iload_2 (pc := 17) dX5_laughedTogether_17 ?_
      refine z_iaload (pc := 18) dX5_laughedTogether_18 ly_35 (by omega) (by omega) ?_
      try rw [c119]
      rw [q5]
      refine s_iadd (pc := 19) dX5_laughedTogether_19 ?_
      refine s_istore_1 (pc := 20) dX5_laughedTogether_20 (Nat.le_of_ble_eq_true rfl) rfl ?_
      refine s_iinc_2 (pc := 21) dX5_laughedTogether_21 (Nat.le_of_ble_eq_true rfl) rfl ?_
      refine s_goto (pc := 24) 4 dX5_laughedTogether_24 rfl ?_
      refine s_le ?_ (ih (j + 1) (by omega) (by omega) (by omega))
      rw [hsu]
      exact ⟨Or.inr rfl, Or.inr rfl, Or.inr rfl, trivial⟩
theorem c_X5_laughedTogether {κ μ : Mem} (hS : SQ κ μ) : Mc kX5_laughedTogether [.inr (.inr 7)] μ (pI (fun z ν => sm (κ 62) (κ 135 0).toNat = z ∧ μ = ν)) := by
  refine Mc_of (by decide +kernel) (fun _ => Nat.le_of_ble_eq_true rfl) ?_
  show AW kX5_laughedTogether 0 [some (.inr (.inr 7)), none, none] [] μ _
  refine s_iconst_0 (pc := 0) dX5_laughedTogether_0 ?_
  refine s_istore_1 (pc := 1) dX5_laughedTogether_1 (Nat.le_of_ble_eq_true rfl) rfl ?_
  refine s_iconst_0 (pc := 2) dX5_laughedTogether_2 ?_
  refine s_istore_2 (pc := 3) dX5_laughedTogether_3 (Nat.le_of_ble_eq_true rfl) rfl ?_
  have h60 := hS.1.1
  exact lp_X5_lt hS 61 0 (by omega) (by omega) (by omega)
theorem lp_X5_off {κ : Mem} {a t : Int} {μ : Mem} (hS : SQ κ μ) (ht : 0 ≤ t ∧ t ≤ 9) (ha : 0 ≤ a ∧ a ≤ 3) : ∀ (f : Nat) (j : Int), (0 ≤ j) → (j ≤ κ 135 0) → κ 135 0 - j < (f : Int) → AW kX5_offBy 5 [some (.inr (.inr 7)), some (.inl a), some (.inl t), some (.inl (sm (ofF κ a t) j.toNat)), some (.inl j), none, none] [] μ (pI (fun z ν => ofs κ a t = z ∧ μ = ν)) := by
  intro f
  induction f with
  | zero =>
    intro j h0 h1 hm
    exfalso; omega
  | succ f ih =>
    intro j h0 h1 hm
    obtain ⟨⟨h60, hr⟩, c119, hc⟩ := id hS
    refine s_iload_4 (pc := 5) dX5_offBy_5 ?_
    refine s_aload_0 (pc := 7) dX5_offBy_7 ?_
    refine gfX5_27 (pc := 8) dX5_offBy_8 rfl ?_
    try rw [c119]
    try rw [q1]
    try rw [q2]
    try rw [q3]
    try rw [q4]
    try rw [q5]
    refine s_icmp_ge (pc := 11) 89 dX5_offBy_11 rfl (by omega) (by omega) (fun h11 => ?_) (fun h11 => ?_)
    · refine s_iload_3 (pc := 89) dX5_offBy_89 ?_
      refine s_ireturn (pc := 90) dX5_offBy_90 rfl ?_
      cases (show j = κ 135 0 by omega)
      exact ⟨rfl, rfl⟩
    · obtain ⟨q1, q2, q3, q4, q5⟩ := hc j h0 (by omega)
      obtain ⟨o1, o2, o3, o4, o5⟩ := hr j h0 (by omega)
      have hsu := sm_succ (f := ofF κ a t) h0
      refine s_aload_0 (pc := 14) dX5_offBy_14 ?_
      refine gfX5_9 (pc := 15) dX5_offBy_15 rfl ?_
      refine s_iload_4 (pc := 18) dX5_offBy_18 ?_
      refine z_iaload (pc := 20) dX5_offBy_20 ly_31 (by omega) (by omega) ?_
      try rw [c119]
      try rw [q1]
      try rw [q2]
      try rw [q3]
      try rw [q4]
      try rw [q5]
      refine s_iload_1 (pc := 21) dX5_offBy_21 ?_
      refine s_icmp_ne (pc := 22) 83 dX5_offBy_22 rfl (by omega) (by omega) (fun h22 => ?_) (fun h22 => ?_)
      · rw [ofF, if_neg (by omega)] at hsu
        refine s_iinc_4 (pc := 83) dX5_offBy_83 (Nat.le_of_ble_eq_true rfl) rfl ?_
        refine s_goto (pc := 86) 5 dX5_offBy_86 rfl ?_
        refine s_le ?_ (ih (j + 1) (by omega) (by omega) (by omega))
        rw [hsu]
        first
          | exact ⟨Or.inr rfl, Or.inr rfl, Or.inr rfl, Or.inr rfl, Or.inr rfl, Or.inl rfl, Or.inl rfl, trivial⟩
          | (rw [Int.add_zero]
             exact ⟨Or.inr rfl, Or.inr rfl, Or.inr rfl, Or.inr rfl, Or.inr rfl, Or.inl rfl, Or.inl rfl, trivial⟩)
      · rw [ofF, if_pos (by omega)] at hsu
        refine s_iload_2 (pc := 25) dX5_offBy_25 ?_
        refine s_aload_0 (pc := 26) dX5_offBy_26 ?_
        refine gfX5_15 (pc := 27) dX5_offBy_27 rfl ?_
        refine s_iload_4 (pc := 30) dX5_offBy_30 ?_
        refine z_iaload (pc := 32) dX5_offBy_32 ly_32 (by omega) (by omega) ?_
        try rw [c119]
        try rw [q1]
        try rw [q2]
        try rw [q3]
        try rw [q4]
        try rw [q5]
        refine s_aload_0 (pc := 33) dX5_offBy_33 ?_
        refine gfX5_18 (pc := 34) dX5_offBy_34 rfl ?_
        refine s_iload_4 (pc := 37) dX5_offBy_37 ?_
        refine z_iaload (pc := 39) dX5_offBy_39 ly_33 (by omega) (by omega) ?_
        try rw [c119]
        try rw [q1]
        try rw [q2]
        try rw [q3]
        try rw [q4]
        try rw [q5]
        refine s_aload_0 (pc := 40) dX5_offBy_40 ?_
        refine gfX5_21 (pc := 41) dX5_offBy_41 rfl ?_
        refine s_iload_4 (pc := 44) dX5_offBy_44 ?_
        refine z_iaload (pc := 46) dX5_offBy_46 ly_34 (by omega) (by omega) ?_
        try rw [c119]
        try rw [q1]
        try rw [q2]
        try rw [q3]
        try rw [q4]
        try rw [q5]
        refine s_iconst_1 (pc := 47) dX5_offBy_47 ?_
        refine s_icmp_ne (pc := 48) 55 dX5_offBy_48 rfl (by omega) (by omega) (fun h48 => ?_) (fun h48 => ?_)
        · refine s_iconst_0 (pc := 55) dX5_offBy_55 ?_
          refine s_valI (y := κ 61 j) (by omega) ?_
          refine cN4i (pc := 56) (Ky := kX8_quartersOf) dX5_offBy_56 rfl nsX5_31 okX8_quartersOf ⟨Nat.le_of_ble_eq_true rfl, Nat.le_of_ble_eq_true rfl⟩ (Nat.le_of_ble_eq_true rfl) (c_X8_quartersOf ht (by omega) (by omega) o4) ?_
          rintro _ _ ⟨rfl, rfl⟩
          refine s_istore_5 (pc := 59) dX5_offBy_59 (Nat.le_of_ble_eq_true rfl) rfl ?_
          refine s_iconst_4 (pc := 61) dX5_offBy_61 ?_
          refine s_aload_0 (pc := 62) dX5_offBy_62 ?_
          refine gfX5_24 (pc := 63) dX5_offBy_63 rfl ?_
          refine s_iload_4 (pc := 66) dX5_offBy_66 ?_
          refine z_iaload (pc := 68) dX5_offBy_68 ly_35 (by omega) (by omega) ?_
          try rw [c119]
          try rw [q1]
          try rw [q2]
          try rw [q3]
          try rw [q4]
          try rw [q5]
          refine s_imul (pc := 69) dX5_offBy_69 ?_
          refine s_iload_5 (pc := 70) dX5_offBy_70 ?_
          refine s_isub (pc := 72) dX5_offBy_72 ?_
          refine s_istore_6 (pc := 73) dX5_offBy_73 (Nat.le_of_ble_eq_true rfl) rfl ?_
          refine s_iload_3 (pc := 75) dX5_offBy_75 ?_
          refine s_iload_6 (pc := 76) dX5_offBy_76 ?_
          refine s_iload_6 (pc := 78) dX5_offBy_78 ?_
          refine s_imul (pc := 80) dX5_offBy_80 ?_
          refine s_iadd (pc := 81) dX5_offBy_81 ?_
          refine s_istore_3 (pc := 82) dX5_offBy_82 (Nat.le_of_ble_eq_true rfl) rfl ?_
          refine s_iinc_4 (pc := 83) dX5_offBy_83 (Nat.le_of_ble_eq_true rfl) rfl ?_
          refine s_goto (pc := 86) 5 dX5_offBy_86 rfl ?_
          refine s_le ?_ (ih (j + 1) (by omega) (by omega) (by omega))
          rw [hsu]
          first
            | exact ⟨Or.inr rfl, Or.inr rfl, Or.inr rfl, Or.inr rfl, Or.inr rfl, Or.inl rfl, Or.inl rfl, trivial⟩
            | (rw [Int.add_zero]
               exact ⟨Or.inr rfl, Or.inr rfl, Or.inr rfl, Or.inr rfl, Or.inr rfl, Or.inl rfl, Or.inl rfl, trivial⟩)
        · refine s_iconst_1 (pc := 51) dX5_offBy_51 ?_
          refine s_goto (pc := 52) 56 dX5_offBy_52 rfl ?_
          refine s_valI (y := κ 61 j) (by omega) ?_
          refine cN4i (pc := 56) (Ky := kX8_quartersOf) dX5_offBy_56 rfl nsX5_31 okX8_quartersOf ⟨Nat.le_of_ble_eq_true rfl, Nat.le_of_ble_eq_true rfl⟩ (Nat.le_of_ble_eq_true rfl) (c_X8_quartersOf ht (by omega) (by omega) o4) ?_
          rintro _ _ ⟨rfl, rfl⟩
          refine s_istore_5 (pc := 59) dX5_offBy_59 (Nat.le_of_ble_eq_true rfl) rfl ?_
          refine s_iconst_4 (pc := 61) dX5_offBy_61 ?_
          refine s_aload_0 (pc := 62) dX5_offBy_62 ?_
          refine gfX5_24 (pc := 63) dX5_offBy_63 rfl ?_
          refine s_iload_4 (pc := 66) dX5_offBy_66 ?_
          refine z_iaload (pc := 68) dX5_offBy_68 ly_35 (by omega) (by omega) ?_
          try rw [c119]
          try rw [q1]
          try rw [q2]
          try rw [q3]
          try rw [q4]
          try rw [q5]
          refine s_imul (pc := 69) dX5_offBy_69 ?_
          refine s_iload_5 (pc := 70) dX5_offBy_70 ?_
          refine s_isub (pc := 72) dX5_offBy_72 ?_
          refine s_istore_6 (pc := 73) dX5_offBy_73 (Nat.le_of_ble_eq_true rfl) rfl ?_
          refine s_iload_3 (pc := 75) dX5_offBy_75 ?_
          refine s_iload_6 (pc := 76) dX5_offBy_76 ?_
          refine s_iload_6 (pc := 78) dX5_offBy_78 ?_
          refine s_imul (pc := 80) dX5_offBy_80 ?_
          refine s_iadd (pc := 81) dX5_offBy_81 ?_
          refine s_istore_3 (pc := 82) dX5_offBy_82 (Nat.le_of_ble_eq_true rfl) rfl ?_
          refine s_iinc_4 (pc := 83) dX5_offBy_83 (Nat.le_of_ble_eq_true rfl) rfl ?_
          refine s_goto (pc := 86) 5 dX5_offBy_86 rfl ?_
          refine s_le ?_ (ih (j + 1) (by omega) (by omega) (by omega))
          rw [hsu]
          first
            | exact ⟨Or.inr rfl, Or.inr rfl, Or.inr rfl, Or.inr rfl, Or.inr rfl, Or.inl rfl, Or.inl rfl, trivial⟩
            | (rw [Int.add_zero]
               exact ⟨Or.inr rfl, Or.inr rfl, Or.inr rfl, Or.inr rfl, Or.inr rfl, Or.inl rfl, Or.inl rfl, trivial⟩)
theorem c_X5_offBy {κ : Mem} {a t : Int} {μ : Mem} (hS : SQ κ μ) (ht : 0 ≤ t ∧ t ≤ 9) (ha : 0 ≤ a ∧ a ≤ 3) : Mc kX5_offBy [.inr (.inr 7), .inl a, .inl t] μ (pI (fun z ν => ofs κ a t = z ∧ μ = ν)) := by
  refine Mc_of (by decide +kernel) (fun _ => Nat.le_of_ble_eq_true rfl) ?_
  show AW kX5_offBy 0 [some (.inr (.inr 7)), some (.inl a), some (.inl t), none, none, none, none] [] μ _
  refine s_iconst_0 (pc := 0) dX5_offBy_0 ?_
  refine s_istore_3 (pc := 1) dX5_offBy_1 (Nat.le_of_ble_eq_true rfl) rfl ?_
  refine s_iconst_0 (pc := 2) dX5_offBy_2 ?_
  refine s_istore_4 (pc := 3) dX5_offBy_3 (Nat.le_of_ble_eq_true rfl) rfl ?_
  have h60 := hS.1.1
  exact lp_X5_off hS ht ha 61 0 (by omega) (by omega) (by omega)
theorem lp_X5_was {κ : Mem} {a : Int} {μ : Mem} (hS : SQ κ μ) (ha : 0 ≤ a ∧ a ≤ 3) : ∀ (f : Nat) (j : Int), (0 ≤ j) → (j ≤ κ 135 0) → (sm (snF κ a) j.toNat = 0) → κ 135 0 - j < (f : Int) → AW kX5_wasSeen 2 [some (.inr (.inr 7)), some (.inl a), some (.inl j)] [] μ (pI (fun z ν => (if sm (snF κ a) (κ 135 0).toNat = 0 then 0 else 1) = z ∧ μ = ν)) := by
  intro f
  induction f with
  | zero =>
    intro j h0 h1 hz hm
    exfalso; omega
  | succ f ih =>
    intro j h0 h1 hz hm
    obtain ⟨⟨h60, hr⟩, c119, hc⟩ := id hS
    have hsu := sm_succ (f := snF κ a) h0
    refine s_iload_2 (pc := 2) dX5_wasSeen_2 ?_
    refine s_aload_0 (pc := 3) dX5_wasSeen_3 ?_
    refine gfX5_27 (pc := 4) dX5_wasSeen_4 rfl ?_
    try rw [c119]
    try rw [q1]
    refine s_icmp_ge (pc := 7) 28 dX5_wasSeen_7 rfl (by omega) (by omega) (fun h7 => ?_) (fun h7 => ?_)
    · refine s_iconst_0 (pc := 28) dX5_wasSeen_28 ?_
      refine s_zreturn (pc := 29) dX5_wasSeen_29 rfl (by omega) ?_
      cases (show j = κ 135 0 by omega)
      exact ⟨if_pos hz, rfl⟩
    · obtain ⟨q1, -⟩ := hc j h0 (by omega)
      obtain ⟨o1, -⟩ := hr j h0 (by omega)
      refine s_aload_0 (pc := 10) dX5_wasSeen_10 ?_
      refine gfX5_9 (pc := 11) dX5_wasSeen_11 rfl ?_
      refine s_iload_2 (pc := 14) dX5_wasSeen_14 ?_
      refine z_iaload (pc := 15) dX5_wasSeen_15 ly_31 (by omega) (by omega) ?_
      try rw [c119]
      try rw [q1]
      refine s_iload_1 (pc := 16) dX5_wasSeen_16 ?_
      refine s_icmp_ne (pc := 17) 22 dX5_wasSeen_17 rfl (by omega) (by omega) (fun h17 => ?_) (fun h17 => ?_)
      · have hs0 : snF κ a j = 0 := if_neg (by omega)
        refine s_iinc_2 (pc := 22) dX5_wasSeen_22 (Nat.le_of_ble_eq_true rfl) rfl ?_
        refine s_goto (pc := 25) 2 dX5_wasSeen_25 rfl ?_
        refine s_le ?_ (ih (j + 1) (by omega) (by omega) (by rw [hsu, hz, hs0]; rfl) (by omega))
        exact ⟨Or.inr rfl, Or.inr rfl, Or.inr rfl, trivial⟩
      · have hs1 : snF κ a j = 1 := if_pos (by omega)
        have hon := sm_one (f := snF κ a) (n := (κ 135 0).toNat) (fun k _ _ => by unfold snF; split <;> omega) j h0 (by omega)
        refine s_iconst_1 (pc := 20) dX5_wasSeen_20 ?_
        refine s_zreturn (pc := 21) dX5_wasSeen_21 rfl (by omega) ?_
        exact ⟨if_neg (by omega), rfl⟩
theorem c_X5_wasSeen {κ : Mem} {a : Int} {μ : Mem} (hS : SQ κ μ) (ha : 0 ≤ a ∧ a ≤ 3) : Mc kX5_wasSeen [.inr (.inr 7), .inl a] μ (pI (fun z ν => (if sm (snF κ a) (κ 135 0).toNat = 0 then 0 else 1) = z ∧ μ = ν)) := by
  refine Mc_of (by decide +kernel) (fun _ => Nat.le_of_ble_eq_true rfl) ?_
  show AW kX5_wasSeen 0 [some (.inr (.inr 7)), some (.inl a), none] [] μ _
  refine s_iconst_0 (pc := 0) dX5_wasSeen_0 ?_
  refine s_istore_2 (pc := 1) dX5_wasSeen_1 (Nat.le_of_ble_eq_true rfl) rfl ?_
  have h60 := hS.1.1
  exact lp_X5_was hS ha 61 0 (by omega) (by omega) rfl (by omega)
theorem lp_X5_lk {κ : Mem} {a : Int} {μ : Mem} (hS : SQ κ μ) (ha : 0 ≤ a ∧ a ≤ 3) : ∀ (f : Nat) (t b w : Int), (0 ≤ t) → (t ≤ 10) → ((t = 0 ∧ b = 0 ∧ w = 2147483647) ∨ (1 ≤ t ∧ b = gsN κ a (t - 1).toNat ∧ w = ofs κ a (gsN κ a (t - 1).toNat))) → 10 - t < (f : Int) → AW kX5_likeliest 19 [some (.inr (.inr 7)), some (.inl a), some (.inl b), some (.inl w), some (.inl t), none] [] μ (pI (fun z ν => gsN κ a 9 = z ∧ μ = ν)) := by
  intro f
  induction f with
  | zero =>
    intro t b w h0 h1 hb hm
    exfalso; omega
  | succ f ih =>
    intro t b w h0 h1 hb hm
    have hgi := gsN_in (κ := κ) (a := a) (t - 1).toNat
    have o2 := ofs_in hS.1 (a := a) (t := gsN κ a (t - 1).toNat)
    have hwi : 0 ≤ w ∧ w ≤ 2147483647 ∧ 0 ≤ b ∧ b ≤ 10 := by rcases hb with ⟨q1, q2, q3⟩ | ⟨q1, q2, q3⟩ <;> omega
    refine s_iload_4 (pc := 19) dX5_likeliest_19 ?_
    refine s_bipush (pc := 21) (z := 9) dX5_likeliest_21 rfl ?_
    refine s_icmp_gt (pc := 23) 53 dX5_likeliest_23 rfl (by omega) (by omega) (fun h23 => ?_) (fun h23 => ?_)
    · refine s_iload_2 (pc := 53) dX5_likeliest_53 ?_
      refine s_ireturn (pc := 54) dX5_likeliest_54 rfl ?_
      cases (show t = 10 by omega)
      rcases hb with ⟨q1, q2, q3⟩ | ⟨q1, q2, q3⟩
      · omega
      · exact ⟨q2.symm, rfl⟩
    · have o1 := ofs_in hS.1 (a := a) (t := t) (by omega)
      refine s_aload_0 (pc := 26) dX5_likeliest_26 ?_
      refine s_iload_1 (pc := 27) dX5_likeliest_27 ?_
      refine s_iload_4 (pc := 28) dX5_likeliest_28 ?_
      refine cV2i (pc := 30) (Ky := kX5_offBy) dX5_likeliest_30 rfl lnX5_40 okX5_offBy ⟨5, TX5, 6, rfl, rfl⟩ ⟨Nat.le_of_ble_eq_true rfl, Nat.le_of_ble_eq_true rfl⟩ (Nat.le_of_ble_eq_true rfl) (c_X5_offBy hS (by omega) ha) ?_
      rintro _ _ ⟨rfl, rfl⟩
      refine s_istore_5 (pc := 33) dX5_likeliest_33 (Nat.le_of_ble_eq_true rfl) rfl ?_
      refine s_iload_5 (pc := 35) dX5_likeliest_35 ?_
      refine s_iload_3 (pc := 37) dX5_likeliest_37 ?_
      refine s_icmp_ge (pc := 38) 47 dX5_likeliest_38 rfl (by omega) (by omega) (fun h38 => ?_) (fun h38 => ?_)
      · have hge : ¬ ofs κ a t < w := by omega
        refine s_iinc_4 (pc := 47) dX5_likeliest_47 (Nat.le_of_ble_eq_true rfl) rfl ?_
        refine s_goto (pc := 50) 19 dX5_likeliest_50 rfl ?_
        have hup : 1 ≤ t → gsN κ a t.toNat = if ofs κ a t < ofs κ a (gsN κ a (t - 1).toNat) then t else gsN κ a (t - 1).toNat := fun q => gsN_up q
        first
          | (have _ := hlt
             refine s_le ?_ (ih (t + 1) t (ofs κ a t) (by omega) (by omega) (Or.inr ?_) (by omega))
             · exact ⟨Or.inr rfl, Or.inr rfl, Or.inr rfl, Or.inr rfl, Or.inr rfl, Or.inl rfl, trivial⟩
             rw [show t + 1 - 1 = t by omega]
             rcases hb with ⟨q1, q2, q3⟩ | ⟨q1, q2, q3⟩
             · rw [q1]; exact ⟨by omega, rfl, rfl⟩
             · have hu := hup q1
               rw [if_pos (by omega)] at hu
               rw [hu]
               exact ⟨by omega, rfl, rfl⟩)
          | (have _ := hge
             refine s_le ?_ (ih (t + 1) b w (by omega) (by omega) (Or.inr ?_) (by omega))
             · exact ⟨Or.inr rfl, Or.inr rfl, Or.inr rfl, Or.inr rfl, Or.inr rfl, Or.inl rfl, trivial⟩
             rw [show t + 1 - 1 = t by omega]
             rcases hb with ⟨q1, q2, q3⟩ | ⟨q1, q2, q3⟩
             · omega
             · have hu := hup q1
               rw [if_neg (by omega)] at hu
               rw [hu]
               exact ⟨by omega, q2, q3⟩)
      · have hlt : ofs κ a t < w := by omega
        refine s_iload_5 (pc := 41) dX5_likeliest_41 ?_
        refine s_istore_3 (pc := 43) dX5_likeliest_43 (Nat.le_of_ble_eq_true rfl) rfl ?_
        refine s_iload_4 (pc := 44) dX5_likeliest_44 ?_
        refine s_istore_2 (pc := 46) dX5_likeliest_46 (Nat.le_of_ble_eq_true rfl) rfl ?_
        refine s_iinc_4 (pc := 47) dX5_likeliest_47 (Nat.le_of_ble_eq_true rfl) rfl ?_
        refine s_goto (pc := 50) 19 dX5_likeliest_50 rfl ?_
        have hup : 1 ≤ t → gsN κ a t.toNat = if ofs κ a t < ofs κ a (gsN κ a (t - 1).toNat) then t else gsN κ a (t - 1).toNat := fun q => gsN_up q
        first
          | (have _ := hlt
             refine s_le ?_ (ih (t + 1) t (ofs κ a t) (by omega) (by omega) (Or.inr ?_) (by omega))
             · exact ⟨Or.inr rfl, Or.inr rfl, Or.inr rfl, Or.inr rfl, Or.inr rfl, Or.inl rfl, trivial⟩
             rw [show t + 1 - 1 = t by omega]
             rcases hb with ⟨q1, q2, q3⟩ | ⟨q1, q2, q3⟩
             · rw [q1]; exact ⟨by omega, rfl, rfl⟩
             · have hu := hup q1
               rw [if_pos (by omega)] at hu
               rw [hu]
               exact ⟨by omega, rfl, rfl⟩)
          | (have _ := hge
             refine s_le ?_ (ih (t + 1) b w (by omega) (by omega) (Or.inr ?_) (by omega))
             · exact ⟨Or.inr rfl, Or.inr rfl, Or.inr rfl, Or.inr rfl, Or.inr rfl, Or.inl rfl, trivial⟩
             rw [show t + 1 - 1 = t by omega]
             rcases hb with ⟨q1, q2, q3⟩ | ⟨q1, q2, q3⟩
             · omega
             · have hu := hup q1
               rw [if_neg (by omega)] at hu
               rw [hu]
               exact ⟨by omega, q2, q3⟩)
theorem c_X5_likeliest {κ : Mem} {a : Int} {μ : Mem} (hS : SQ κ μ) (ha : 0 ≤ a ∧ a ≤ 3) : Mc kX5_likeliest [.inr (.inr 7), .inl a] μ (pI (fun z ν => gss κ a = z ∧ μ = ν)) := by
  refine Mc_of (by decide +kernel) (fun _ => Nat.le_of_ble_eq_true rfl) ?_
  show AW kX5_likeliest 0 [some (.inr (.inr 7)), some (.inl a), none, none, none, none] [] μ _
  refine s_aload_0 (pc := 0) dX5_likeliest_0 ?_
  refine s_iload_1 (pc := 1) dX5_likeliest_1 ?_
  refine cV1i (pc := 2) (Ky := kX5_wasSeen) dX5_likeliest_2 rfl lnX5_35 okX5_wasSeen ⟨5, TX5, 6, rfl, rfl⟩ ⟨Nat.le_of_ble_eq_true rfl, Nat.le_of_ble_eq_true rfl⟩ (Nat.le_of_ble_eq_true rfl) (c_X5_wasSeen hS ha) ?_
  rintro _ _ ⟨rfl, rfl⟩
  refine s_if_ne (pc := 5) 11 dX5_likeliest_5 rfl (by omega) (fun h5 => ?_) (fun h5 => ?_)
  · have hne : sm (snF κ a) (κ 135 0).toNat ≠ 0 := fun q => by rw [if_pos q] at h5; exact h5 rfl
    refine s_iconst_0 (pc := 11) dX5_likeliest_11 ?_
    refine s_istore_2 (pc := 12) dX5_likeliest_12 (Nat.le_of_ble_eq_true rfl) rfl ?_
    refine s_ldc (pc := 13) dX5_likeliest_13 rfl cnX5_39 ?_
    refine s_istore_3 (pc := 15) dX5_likeliest_15 (Nat.le_of_ble_eq_true rfl) rfl ?_
    refine s_iconst_0 (pc := 16) dX5_likeliest_16 ?_
    refine s_istore_4 (pc := 17) dX5_likeliest_17 (Nat.le_of_ble_eq_true rfl) rfl ?_
    refine AW.mono (lp_X5_lk hS ha 11 0 0 2147483647 (by omega) (by omega) (Or.inl ⟨rfl, rfl, rfl⟩) (by omega)) ?_
    rintro r ν ⟨y, rfl, rfl, rfl⟩
    exact ⟨_, rfl, by rw [gss, if_neg hne], rfl⟩
  · have hne : sm (snF κ a) (κ 135 0).toNat = 0 := Decidable.byContradiction fun q => by rw [if_neg q] at h5; exact absurd h5 (by decide)
    refine s_bipush (pc := 8) (z := -3) dX5_likeliest_8 rfl ?_
    refine s_ireturn (pc := 10) dX5_likeliest_10 rfl ?_
    exact ⟨by rw [gss, if_pos hne], rfl⟩
theorem lp_X5_hm {κ : Mem} {a b w : Int} {μ : Mem} (hS : SQ κ μ) (ha : 0 ≤ a ∧ a ≤ 3) (hb : 0 ≤ b ∧ b ≤ 9) (hw : 0 ≤ w ∧ w ≤ 1) : ∀ (f : Nat) (j : Int), (0 ≤ j) → (j ≤ κ 135 0) → κ 135 0 - j < (f : Int) → AW kX5_howMany 6 [some (.inr (.inr 7)), some (.inl a), some (.inl b), some (.inl w), some (.inl (sm (lhF κ a b w) j.toNat)), some (.inl j)] [] μ (pI (fun z ν => sm (lhF κ a b w) (κ 135 0).toNat = z ∧ μ = ν)) := by
  intro f
  induction f with
  | zero =>
    intro j h0 h1 hm
    exfalso; omega
  | succ f ih =>
    intro j h0 h1 hm
    obtain ⟨⟨h60, hr⟩, c119, hc⟩ := id hS
    have hsu := sm_succ (f := lhF κ a b w) h0
    have hlh : lhF κ a b w j = (if κ 58 j = a ∧ κ 59 j = b then (if w = 0 then 1 else κ 62 j) else 0) := rfl
    refine s_iload_5 (pc := 6) dX5_howMany_6 ?_
    refine s_aload_0 (pc := 8) dX5_howMany_8 ?_
    refine gfX5_27 (pc := 9) dX5_howMany_9 rfl ?_
    try rw [c119]
    try rw [q1]
    try rw [q2]
    try rw [q5]
    refine s_icmp_ge (pc := 12) 60 dX5_howMany_12 rfl (by omega) (by omega) (fun h12 => ?_) (fun h12 => ?_)
    · refine s_iload_4 (pc := 60) dX5_howMany_60 ?_
      refine s_ireturn (pc := 62) dX5_howMany_62 rfl ?_
      cases (show j = κ 135 0 by omega)
      exact ⟨rfl, rfl⟩
    · obtain ⟨q1, q2, q3, q4, q5⟩ := hc j h0 (by omega)
      obtain ⟨o1, o2, o3, o4, o5⟩ := hr j h0 (by omega)
      refine s_aload_0 (pc := 15) dX5_howMany_15 ?_
      refine gfX5_9 (pc := 16) dX5_howMany_16 rfl ?_
      refine s_iload_5 (pc := 19) dX5_howMany_19 ?_
      refine z_iaload (pc := 21) dX5_howMany_21 ly_31 (by omega) (by omega) ?_
      try rw [c119]
      try rw [q1]
      try rw [q2]
      try rw [q5]
      refine s_iload_1 (pc := 22) dX5_howMany_22 ?_
      refine s_icmp_ne (pc := 23) 54 dX5_howMany_23 rfl (by omega) (by omega) (fun h23 => ?_) (fun h23 => ?_)
      · refine s_iinc_5 (pc := 54) dX5_howMany_54 (Nat.le_of_ble_eq_true rfl) rfl ?_
        refine s_goto (pc := 57) 6 dX5_howMany_57 rfl ?_
        first
          | (have hv : lhF κ a b w j = 1 := by omega
             refine s_le ?_ (ih (j + 1) (by omega) (by omega) (by omega))
             rw [hsu, hv]
             exact ⟨Or.inr rfl, Or.inr rfl, Or.inr rfl, Or.inr rfl, Or.inr rfl, Or.inr rfl, trivial⟩
             done)
          | (have hv : lhF κ a b w j = 0 := by omega
             refine s_le ?_ (ih (j + 1) (by omega) (by omega) (by omega))
             rw [hsu, hv, Int.add_zero]
             exact ⟨Or.inr rfl, Or.inr rfl, Or.inr rfl, Or.inr rfl, Or.inr rfl, Or.inr rfl, trivial⟩)
      · refine s_aload_0 (pc := 26) dX5_howMany_26 ?_
        refine gfX5_15 (pc := 27) dX5_howMany_27 rfl ?_
        refine s_iload_5 (pc := 30) dX5_howMany_30 ?_
        refine z_iaload (pc := 32) dX5_howMany_32 ly_32 (by omega) (by omega) ?_
        try rw [c119]
        try rw [q1]
        try rw [q2]
        try rw [q5]
        refine s_iload_2 (pc := 33) dX5_howMany_33 ?_
        refine s_icmp_ne (pc := 34) 54 dX5_howMany_34 rfl (by omega) (by omega) (fun h34 => ?_) (fun h34 => ?_)
        · refine s_iinc_5 (pc := 54) dX5_howMany_54 (Nat.le_of_ble_eq_true rfl) rfl ?_
          refine s_goto (pc := 57) 6 dX5_howMany_57 rfl ?_
          first
            | (have hv : lhF κ a b w j = 1 := by omega
               refine s_le ?_ (ih (j + 1) (by omega) (by omega) (by omega))
               rw [hsu, hv]
               exact ⟨Or.inr rfl, Or.inr rfl, Or.inr rfl, Or.inr rfl, Or.inr rfl, Or.inr rfl, trivial⟩
               done)
            | (have hv : lhF κ a b w j = 0 := by omega
               refine s_le ?_ (ih (j + 1) (by omega) (by omega) (by omega))
               rw [hsu, hv, Int.add_zero]
               exact ⟨Or.inr rfl, Or.inr rfl, Or.inr rfl, Or.inr rfl, Or.inr rfl, Or.inr rfl, trivial⟩)
        · refine s_iload_3 (pc := 37) dX5_howMany_37 ?_
          refine s_if_eq (pc := 38) 51 dX5_howMany_38 rfl (by omega) (fun h38 => ?_) (fun h38 => ?_)
          · refine s_iinc_4 (pc := 51) dX5_howMany_51 (Nat.le_of_ble_eq_true rfl) rfl ?_
            refine s_iinc_5 (pc := 54) dX5_howMany_54 (Nat.le_of_ble_eq_true rfl) rfl ?_
            refine s_goto (pc := 57) 6 dX5_howMany_57 rfl ?_
            first
              | (have hv : lhF κ a b w j = 1 := by omega
                 refine s_le ?_ (ih (j + 1) (by omega) (by omega) (by omega))
                 rw [hsu, hv]
                 exact ⟨Or.inr rfl, Or.inr rfl, Or.inr rfl, Or.inr rfl, Or.inr rfl, Or.inr rfl, trivial⟩
                 done)
              | (have hv : lhF κ a b w j = 0 := by omega
                 refine s_le ?_ (ih (j + 1) (by omega) (by omega) (by omega))
                 rw [hsu, hv, Int.add_zero]
                 exact ⟨Or.inr rfl, Or.inr rfl, Or.inr rfl, Or.inr rfl, Or.inr rfl, Or.inr rfl, trivial⟩)
          · refine s_aload_0 (pc := 41) dX5_howMany_41 ?_
            refine gfX5_24 (pc := 42) dX5_howMany_42 rfl ?_
            refine s_iload_5 (pc := 45) dX5_howMany_45 ?_
            refine z_iaload (pc := 47) dX5_howMany_47 ly_35 (by omega) (by omega) ?_
            try rw [c119]
            try rw [q1]
            try rw [q2]
            try rw [q5]
            refine s_if_eq (pc := 48) 54 dX5_howMany_48 rfl (by omega) (fun h48 => ?_) (fun h48 => ?_)
            · refine s_iinc_5 (pc := 54) dX5_howMany_54 (Nat.le_of_ble_eq_true rfl) rfl ?_
              refine s_goto (pc := 57) 6 dX5_howMany_57 rfl ?_
              first
                | (have hv : lhF κ a b w j = 1 := by omega
                   refine s_le ?_ (ih (j + 1) (by omega) (by omega) (by omega))
                   rw [hsu, hv]
                   exact ⟨Or.inr rfl, Or.inr rfl, Or.inr rfl, Or.inr rfl, Or.inr rfl, Or.inr rfl, trivial⟩
                   done)
                | (have hv : lhF κ a b w j = 0 := by omega
                   refine s_le ?_ (ih (j + 1) (by omega) (by omega) (by omega))
                   rw [hsu, hv, Int.add_zero]
                   exact ⟨Or.inr rfl, Or.inr rfl, Or.inr rfl, Or.inr rfl, Or.inr rfl, Or.inr rfl, trivial⟩)
            · refine s_iinc_4 (pc := 51) dX5_howMany_51 (Nat.le_of_ble_eq_true rfl) rfl ?_
              refine s_iinc_5 (pc := 54) dX5_howMany_54 (Nat.le_of_ble_eq_true rfl) rfl ?_
              refine s_goto (pc := 57) 6 dX5_howMany_57 rfl ?_
              first
                | (have hv : lhF κ a b w j = 1 := by omega
                   refine s_le ?_ (ih (j + 1) (by omega) (by omega) (by omega))
                   rw [hsu, hv]
                   exact ⟨Or.inr rfl, Or.inr rfl, Or.inr rfl, Or.inr rfl, Or.inr rfl, Or.inr rfl, trivial⟩
                   done)
                | (have hv : lhF κ a b w j = 0 := by omega
                   refine s_le ?_ (ih (j + 1) (by omega) (by omega) (by omega))
                   rw [hsu, hv, Int.add_zero]
                   exact ⟨Or.inr rfl, Or.inr rfl, Or.inr rfl, Or.inr rfl, Or.inr rfl, Or.inr rfl, trivial⟩)
theorem c_X5_howMany {κ : Mem} {a b w : Int} {μ : Mem} (hS : SQ κ μ) (ha : 0 ≤ a ∧ a ≤ 3) (hb : 0 ≤ b ∧ b ≤ 9) (hw : 0 ≤ w ∧ w ≤ 1) : Mc kX5_howMany [.inr (.inr 7), .inl a, .inl b, .inl w] μ (pI (fun z ν => sm (lhF κ a b w) (κ 135 0).toNat = z ∧ μ = ν)) := by
  refine Mc_of (by decide +kernel) (fun _ => Nat.le_of_ble_eq_true rfl) ?_
  show AW kX5_howMany 0 [some (.inr (.inr 7)), some (.inl a), some (.inl b), some (.inl w), none, none] [] μ _
  refine s_iconst_0 (pc := 0) dX5_howMany_0 ?_
  refine s_istore_4 (pc := 1) dX5_howMany_1 (Nat.le_of_ble_eq_true rfl) rfl ?_
  refine s_iconst_0 (pc := 3) dX5_howMany_3 ?_
  refine s_istore_5 (pc := 4) dX5_howMany_4 (Nat.le_of_ble_eq_true rfl) rfl ?_
  have h60 := hS.1.1
  exact lp_X5_hm hS ha hb hw 61 0 (by omega) (by omega) (by omega)
