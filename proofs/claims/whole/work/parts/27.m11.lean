theorem wr_inc {μ : Mem} {c : Nat} {a b w : Int} (h : a = b) : wr μ c a (μ c a + w) = wr μ c b (μ c b + w) := by rw [h]
theorem bmod_succ {b p : Int} (hp : 0 ≤ p ∧ p < 4) : b % (2 : Int) ^ (p + 1).toNat = b % (2 : Int) ^ p.toNat + (2 : Int) ^ p.toNat * bt b p := by
  refine four (P := fun p => b % (2 : Int) ^ (p + 1).toNat = b % (2 : Int) ^ p.toNat + (2 : Int) ^ p.toNat * bt b p) hp ?_ ?_ ?_ ?_
  · show b % 2 = b % 1 + 1 * (b / 1 % 2); omega
  · show b % 4 = b % 2 + 2 * (b / 2 % 2); omega
  · show b % 8 = b % 4 + 4 * (b / 4 % 2); omega
  · show b % 16 = b % 8 + 8 * (b / 8 % 2); omega
theorem pw_pos {p : Int} : 0 < (2 : Int) ^ p.toNat := pow_pos
theorem bmod_nn {b p : Int} : 0 ≤ b % (2 : Int) ^ p.toNat := Int.emod_nonneg _ (by have := pw_pos (p := p); omega)
theorem lp_X9_ones {b : Int} {μ : Mem} : ∀ (f : Nat) (c l : Int), (0 ≤ l ∧ l < 16) → (0 ≤ c ∧ c ≤ 4) → (c + on l = on b) → l < (f : Int) → AW kX9_ones 4 [some (.inl b), some (.inl c), some (.inl l)] [] μ (pI (fun z ν => on b = z ∧ μ = ν)) := by
  intro f
  induction f with
  | zero =>
    intro c l h0 h1 h2 hm
    exfalso; omega
  | succ f ih =>
    intro c l h0 h1 h2 hm
    refine s_iload_2 (pc := 4) dX9_ones_4 ?_
    refine s_if_eq (pc := 5) 20 dX9_ones_5 rfl (by omega) (fun h5 => ?_) (fun h5 => ?_)
    · refine s_iload_1 (pc := 20) dX9_ones_20 ?_
      refine s_ireturn (pc := 21) dX9_ones_21 rfl ?_
      refine ⟨?_, rfl⟩
      rw [h5, on_0] at h2
      omega
    · refine s_iinc_1 (pc := 8) dX9_ones_8 (Nat.le_of_ble_eq_true rfl) rfl ?_
      refine s_iload_2 (pc := 11) dX9_ones_11 ?_
      refine s_iload_2 (pc := 12) dX9_ones_12 ?_
      refine s_iconst_1 (pc := 13) dX9_ones_13 ?_
      refine s_isub (pc := 14) dX9_ones_14 ?_
      refine s_iand (pc := 15) dX9_ones_15 ?_
      refine s_istore_2 (pc := 16) dX9_ones_16 (Nat.le_of_ble_eq_true rfl) rfl ?_
      refine s_goto (pc := 17) 4 dX9_ones_17 rfl ?_
      have ha := on_and h0 h5
      have hb := on_in (b := b)
      have hc := on_in (b := andI l (l - 1))
      exact ih _ _ (by omega) (by omega) (by omega) (by omega)
theorem c_X9_ones {b : Int} {μ : Mem} (hb : 0 ≤ b ∧ b < 16) : Mc kX9_ones [.inl b] μ (pI (fun z ν => on b = z ∧ μ = ν)) := by
  refine Mc_of (by decide +kernel) (fun _ => Nat.le_of_ble_eq_true rfl) ?_
  show AW kX9_ones 0 [some (.inl b), none, none] [] μ _
  refine s_iconst_0 (pc := 0) dX9_ones_0 ?_
  refine s_istore_1 (pc := 1) dX9_ones_1 (Nat.le_of_ble_eq_true rfl) rfl ?_
  refine s_iload_0 (pc := 2) dX9_ones_2 ?_
  refine s_istore_2 (pc := 3) dX9_ones_3 (Nat.le_of_ble_eq_true rfl) rfl ?_
  exact lp_X9_ones 16 0 b hb (by omega) (by omega) (by omega)
theorem c_X9_comes {s to w law : Int} {μ : Mem} (e126 : μ 126 0 = law) (hlaw : 0 ≤ law ∧ law ≤ 2) (hs : 0 ≤ s ∧ s < 50) (hto : 0 ≤ to ∧ to < 4) : Mc kX9_comes [.inr (.inr 9), .inl s, .inl to, .inr (.inl w)] μ (pV (fun ν => wr μ 54 (tgt law s to) (μ 54 (tgt law s to) + w) = ν)) := by
  refine Mc_of (by decide +kernel) (fun _ => Nat.le_of_ble_eq_true rfl) ?_
  show AW kX9_comes 0 [some (.inr (.inr 9)), some (.inl s), some (.inl to), some (.inr (.inl w)), none, none, none, none, none] [] μ _
  refine s_iload_1 (pc := 0) dX9_comes_0 ?_
  refine s_bipush (pc := 1) (z := 10) dX9_comes_1 rfl ?_
  refine s_idiv (pc := 3) dX9_comes_3 (by omega) (by omega) ?_
  rw [Int.tdiv_eq_ediv_of_nonneg (by omega)]
  refine s_istore_5 (pc := 4) dX9_comes_4 (Nat.le_of_ble_eq_true rfl) rfl ?_
  refine s_iload_1 (pc := 6) dX9_comes_6 ?_
  refine s_iconst_2 (pc := 7) dX9_comes_7 ?_
  refine s_idiv (pc := 8) dX9_comes_8 (by omega) (by omega) ?_
  rw [Int.tdiv_eq_ediv_of_nonneg (by omega)]
  refine s_iconst_5 (pc := 9) dX9_comes_9 ?_
  refine s_irem (pc := 10) dX9_comes_10 (by omega) (by omega) ?_
  rw [Int.tmod_eq_emod_of_nonneg (by omega)]
  refine s_istore_6 (pc := 11) dX9_comes_11 (Nat.le_of_ble_eq_true rfl) rfl ?_
  refine s_iload_1 (pc := 13) dX9_comes_13 ?_
  refine s_iconst_2 (pc := 14) dX9_comes_14 ?_
  refine s_irem (pc := 15) dX9_comes_15 (by omega) (by omega) ?_
  rw [Int.tmod_eq_emod_of_nonneg (by omega)]
  refine s_istore_7 (pc := 16) dX9_comes_16 (Nat.le_of_ble_eq_true rfl) rfl ?_
  refine s_aload_0 (pc := 18) dX9_comes_18 ?_
  refine gfX9_174 (pc := 19) dX9_comes_19 rfl ?_
  refine s_iconst_1 (pc := 22) dX9_comes_22 ?_
  refine s_icmp_ne (pc := 23) 59 dX9_comes_23 rfl (by omega) (by omega) (fun h23 => ?_) (fun h23 => ?_)
  · refine s_aload_0 (pc := 59) dX9_comes_59 ?_
    refine gfX9_174 (pc := 60) dX9_comes_60 rfl ?_
    refine s_iconst_2 (pc := 63) dX9_comes_63 ?_
    refine s_icmp_ne (pc := 64) 77 dX9_comes_64 rfl (by omega) (by omega) (fun h64 => ?_) (fun h64 => ?_)
    · refine s_iconst_0 (pc := 77) dX9_comes_77 ?_
      refine s_istore_8 (pc := 78) dX9_comes_78 (Nat.le_of_ble_eq_true rfl) rfl ?_
      refine s_aload_0 (pc := 80) dX9_comes_80 ?_
      refine gfX9_56 (pc := 81) dX9_comes_81 rfl ?_
      refine s_bipush (pc := 84) (z := 10) dX9_comes_84 rfl ?_
      refine s_iload_2 (pc := 86) dX9_comes_86 ?_
      refine s_imul (pc := 87) dX9_comes_87 ?_
      refine s_iconst_2 (pc := 88) dX9_comes_88 ?_
      refine s_iload_6 (pc := 89) dX9_comes_89 ?_
      refine s_iload_8 (pc := 91) dX9_comes_91 ?_
      refine s_iadd (pc := 93) dX9_comes_93 ?_
      refine s_imul (pc := 94) dX9_comes_94 ?_
      refine s_iadd (pc := 95) dX9_comes_95 ?_
      refine s_dup2 (pc := 96) dX9_comes_96 rfl rfl ?_
      refine z_laload (pc := 97) dX9_comes_97 ly_54 (by omega) (by omega) ?_
      refine s_lload_3 (pc := 98) dX9_comes_98 ?_
      refine s_ladd (pc := 99) dX9_comes_99 ?_
      refine z_lastore (pc := 100) dX9_comes_100 ly_54 ip_54 (by omega) (by omega) ?_
      refine s_return (pc := 101) dX9_comes_101 rfl ?_
      exact wr_inc (by unfold tgt; omega)
    · refine s_iload_2 (pc := 67) dX9_comes_67 ?_
      refine s_iload_5 (pc := 68) dX9_comes_68 ?_
      refine s_icmp_eq (pc := 70) 77 dX9_comes_70 rfl (by omega) (by omega) (fun h70 => ?_) (fun h70 => ?_)
      · refine s_iconst_0 (pc := 77) dX9_comes_77 ?_
        refine s_istore_8 (pc := 78) dX9_comes_78 (Nat.le_of_ble_eq_true rfl) rfl ?_
        refine s_aload_0 (pc := 80) dX9_comes_80 ?_
        refine gfX9_56 (pc := 81) dX9_comes_81 rfl ?_
        refine s_bipush (pc := 84) (z := 10) dX9_comes_84 rfl ?_
        refine s_iload_2 (pc := 86) dX9_comes_86 ?_
        refine s_imul (pc := 87) dX9_comes_87 ?_
        refine s_iconst_2 (pc := 88) dX9_comes_88 ?_
        refine s_iload_6 (pc := 89) dX9_comes_89 ?_
        refine s_iload_8 (pc := 91) dX9_comes_91 ?_
        refine s_iadd (pc := 93) dX9_comes_93 ?_
        refine s_imul (pc := 94) dX9_comes_94 ?_
        refine s_iadd (pc := 95) dX9_comes_95 ?_
        refine s_dup2 (pc := 96) dX9_comes_96 rfl rfl ?_
        refine z_laload (pc := 97) dX9_comes_97 ly_54 (by omega) (by omega) ?_
        refine s_lload_3 (pc := 98) dX9_comes_98 ?_
        refine s_ladd (pc := 99) dX9_comes_99 ?_
        refine z_lastore (pc := 100) dX9_comes_100 ly_54 ip_54 (by omega) (by omega) ?_
        refine s_return (pc := 101) dX9_comes_101 rfl ?_
        exact wr_inc (by unfold tgt; omega)
      · refine s_iconst_1 (pc := 73) dX9_comes_73 ?_
        refine s_goto (pc := 74) 78 dX9_comes_74 rfl ?_
        refine s_istore_8 (pc := 78) dX9_comes_78 (Nat.le_of_ble_eq_true rfl) rfl ?_
        refine s_aload_0 (pc := 80) dX9_comes_80 ?_
        refine gfX9_56 (pc := 81) dX9_comes_81 rfl ?_
        refine s_bipush (pc := 84) (z := 10) dX9_comes_84 rfl ?_
        refine s_iload_2 (pc := 86) dX9_comes_86 ?_
        refine s_imul (pc := 87) dX9_comes_87 ?_
        refine s_iconst_2 (pc := 88) dX9_comes_88 ?_
        refine s_iload_6 (pc := 89) dX9_comes_89 ?_
        refine s_iload_8 (pc := 91) dX9_comes_91 ?_
        refine s_iadd (pc := 93) dX9_comes_93 ?_
        refine s_imul (pc := 94) dX9_comes_94 ?_
        refine s_iadd (pc := 95) dX9_comes_95 ?_
        refine s_dup2 (pc := 96) dX9_comes_96 rfl rfl ?_
        refine z_laload (pc := 97) dX9_comes_97 ly_54 (by omega) (by omega) ?_
        refine s_lload_3 (pc := 98) dX9_comes_98 ?_
        refine s_ladd (pc := 99) dX9_comes_99 ?_
        refine z_lastore (pc := 100) dX9_comes_100 ly_54 ip_54 (by omega) (by omega) ?_
        refine s_return (pc := 101) dX9_comes_101 rfl ?_
        exact wr_inc (by unfold tgt; omega)
  · refine s_aload_0 (pc := 26) dX9_comes_26 ?_
    refine gfX9_56 (pc := 27) dX9_comes_27 rfl ?_
    refine s_iload_7 (pc := 30) dX9_comes_30 ?_
    refine s_iconst_1 (pc := 32) dX9_comes_32 ?_
    refine s_icmp_ne (pc := 33) 40 dX9_comes_33 rfl (by omega) (by omega) (fun h33 => ?_) (fun h33 => ?_)
    · refine s_bipush (pc := 40) (z := 10) dX9_comes_40 rfl ?_
      refine s_iload_2 (pc := 42) dX9_comes_42 ?_
      refine s_imul (pc := 43) dX9_comes_43 ?_
      refine s_iconst_2 (pc := 44) dX9_comes_44 ?_
      refine s_iload_6 (pc := 45) dX9_comes_45 ?_
      refine s_imul (pc := 47) dX9_comes_47 ?_
      refine s_iadd (pc := 48) dX9_comes_48 ?_
      refine s_iconst_1 (pc := 49) dX9_comes_49 ?_
      refine s_iadd (pc := 50) dX9_comes_50 ?_
      refine s_dup2 (pc := 51) dX9_comes_51 rfl rfl ?_
      refine z_laload (pc := 52) dX9_comes_52 ly_54 (by omega) (by omega) ?_
      refine s_lload_3 (pc := 53) dX9_comes_53 ?_
      refine s_ladd (pc := 54) dX9_comes_54 ?_
      refine z_lastore (pc := 55) dX9_comes_55 ly_54 ip_54 (by omega) (by omega) ?_
      refine s_goto (pc := 56) 101 dX9_comes_56 rfl ?_
      refine s_return (pc := 101) dX9_comes_101 rfl ?_
      exact wr_inc (by unfold tgt; omega)
    · refine s_iload_1 (pc := 36) dX9_comes_36 ?_
      refine s_goto (pc := 37) 51 dX9_comes_37 rfl ?_
      refine s_dup2 (pc := 51) dX9_comes_51 rfl rfl ?_
      refine z_laload (pc := 52) dX9_comes_52 ly_54 (by omega) (by omega) ?_
      refine s_lload_3 (pc := 53) dX9_comes_53 ?_
      refine s_ladd (pc := 54) dX9_comes_54 ?_
      refine z_lastore (pc := 55) dX9_comes_55 ly_54 ip_54 (by omega) (by omega) ?_
      refine s_goto (pc := 56) 101 dX9_comes_56 rfl ?_
      refine s_return (pc := 101) dX9_comes_101 rfl ?_
      exact wr_inc (by unfold tgt; omega)
theorem lau_st {s b w sev law P : Int} {μ : Mem} (h : on b = 0 ∨ (1 < on b ∧ sev = 0)) : wa μ 54 (fun k => μ 54 k + w * (stp sev b * ind k s + sm (fun p => shp sev b p * ind k (tgt law s p)) P.toNat)) = wr μ 54 s (μ 54 s + 12 * w) := by
  rw [show wr μ 54 s (μ 54 s + 12 * w) = wa μ 54 (fun j => if j = s then μ 54 s + 12 * w else μ 54 j) from by rw [← wr_wa, wa_self (fun _ => rfl)]]
  refine wa_ext fun k => ?_
  rw [stp, if_pos h, sm_zero (fun q _ _ => by rw [shp, if_pos h, Int.zero_mul]), ind]
  split
  · rename_i hk; rw [hk]; omega
  · omega
theorem lau_up {s b w sev law p v : Int} {μ : Mem} (hp : 0 ≤ p) (hv : v = shp sev b p * w) : wr (wa μ 54 (fun k => μ 54 k + w * sm (fun q => shp sev b q * ind k (tgt law s q)) p.toNat)) 54 (tgt law s p) ((wa μ 54 (fun k => μ 54 k + w * sm (fun q => shp sev b q * ind k (tgt law s q)) p.toNat)) 54 (tgt law s p) + v) = wa μ 54 (fun k => μ 54 k + w * sm (fun q => shp sev b q * ind k (tgt law s q)) (p + 1).toNat) := by
  rw [wr_wa, wa_s]
  refine wa_ext fun k => ?_
  rw [sm_succ hp, ind]
  by_cases hk : k = tgt law s p
  · rw [if_pos hk, if_pos hk, hk, hv, Int.mul_add, Int.mul_one, Int.mul_comm w (shp sev b p)]
    omega
  · rw [if_neg hk, if_neg hk, Int.mul_zero, Int.add_zero]
theorem lau_no {s b w sev law p : Int} {μ : Mem} (hp : 0 ≤ p) (hv : shp sev b p = 0) : wa μ 54 (fun k => μ 54 k + w * sm (fun q => shp sev b q * ind k (tgt law s q)) p.toNat) = wa μ 54 (fun k => μ 54 k + w * sm (fun q => shp sev b q * ind k (tgt law s q)) (p + 1).toNat) := by
  refine wa_ext fun k => ?_
  rw [sm_succ hp, hv, Int.zero_mul, Int.add_zero]
theorem on_two {b p : Int} (hb : 0 ≤ b ∧ b < 16) (hp : 0 ≤ p ∧ p < 4) (h1 : bt b p = 1) (h2 : b % (2 : Int) ^ p.toNat ≠ 0) : 2 ≤ on b := by
  revert h1 h2
  refine four (P := fun p => bt b p = 1 → b % (2 : Int) ^ p.toNat ≠ 0 → 2 ≤ on b) hp ?_ ?_ ?_ ?_ <;> refine bits16 (P := fun b => bt b _ = 1 → b % (2 : Int) ^ _ ≠ 0 → 2 ≤ on b) hb ?_ ?_ ?_ ?_ ?_ ?_ ?_ ?_ ?_ ?_ ?_ ?_ ?_ ?_ ?_ ?_ <;> decide +kernel
theorem lp_X9_laugh {s b w sev law P : Int} {μ : Mem} {al : Int} (e127 : μ 127 0 = sev) (e126 : μ 126 0 = law) (e129 : μ 129 0 = P) (hsev : 0 ≤ sev ∧ sev ≤ 2) (hlaw : 0 ≤ law ∧ law ≤ 2) (hP : 0 ≤ P ∧ P ≤ 4) (hs : 0 ≤ s ∧ s < 50) (hb : 0 ≤ b ∧ b < 16) (hn : ¬ (on b = 0 ∨ (1 < on b ∧ sev = 0))) (hal : (al = 1 ∧ 1 < on b ∧ sev = 2) ∨ (al = 0 ∧ (on b = 1 ∨ sev = 1))) : ∀ (f : Nat) (fi p : Int), (0 ≤ p) → (p ≤ P) → ((fi = 1 ∧ b % (2 : Int) ^ p.toNat = 0) ∨ (fi = 0 ∧ b % (2 : Int) ^ p.toNat ≠ 0)) → P - p < (f : Int) → AW kX9_laugh 66 [some (.inr (.inr 9)), some (.inl s), some (.inl b), some (.inr (.inl w)), none, some (.inl (on b)), some (.inl al), some (.inl fi), some (.inl p)] [] (wa μ 54 (fun k => μ 54 k + w * sm (fun q => shp sev b q * ind k (tgt law s q)) p.toNat)) (pV (fun ν => wa μ 54 (fun k => μ 54 k + w * (stp sev b * ind k s + sm (fun p => shp sev b p * ind k (tgt law s p)) P.toNat)) = ν)) := by
  intro f
  induction f with
  | zero =>
    intro fi p h0 h1 hf hm
    exfalso; omega
  | succ f ih =>
    intro fi p h0 h1 hf hm
    have hon := on_in (b := b)
    refine s_iload_8 (pc := 66) dX9_laugh_66 ?_
    refine s_aload_0 (pc := 68) dX9_laugh_68 ?_
    refine gfX9_171 (pc := 69) dX9_laugh_69 rfl ?_
    try simp (decide := true) only [wr_s, wr_n, wa_s, wa_n, mg_i, mg_o, if_true, eq_self, reduceIte]
    refine s_icmp_ge (pc := 72) 133 dX9_laugh_72 rfl (by omega) (by omega) (fun h72 => ?_) (fun h72 => ?_)
    · refine s_return (pc := 133) dX9_laugh_133 rfl ?_
      cases (show p = P by omega)
      refine wa_ext fun k => ?_
      rw [stp, if_neg hn, Int.zero_mul, Int.zero_add]
    · refine s_iload_2 (pc := 75) dX9_laugh_75 ?_
      refine s_iload_8 (pc := 76) dX9_laugh_76 ?_
      refine s_ishr (pc := 78) dX9_laugh_78 ?_
      refine s_iconst_1 (pc := 79) dX9_laugh_79 ?_
      refine s_iand (pc := 80) dX9_laugh_80 ?_
      rw [shr_bt (by omega) (by omega)]
      have hbt := bt_in (b := b) (k := p)
      refine s_iconst_1 (pc := 81) dX9_laugh_81 ?_
      refine s_icmp_ne (pc := 82) 127 dX9_laugh_82 rfl (by omega) (by omega) (fun h82 => ?_) (fun h82 => ?_)
      · refine s_iinc_8 (pc := 127) dX9_laugh_127 (Nat.le_of_ble_eq_true rfl) rfl ?_
        refine s_goto (pc := 130) 66 dX9_laugh_130 rfl ?_
        have hbm := bmod_succ (b := b) (p := p) (by omega)
        have hnn := bmod_nn (b := b) (p := p)
        have hpp := pw_pos (p := p)
        refine s_mem (lau_no h0 ?_) (ih _ (p + 1) (by omega) (by omega) ?_ (by omega))
        · rw [shp, if_neg hn, if_neg]
          rintro ⟨q1, q2⟩
          first | (exfalso; omega; done) | (have := on_two hb (p := p) (by omega) (by omega) (by omega); omega)
        · first
            | (rw [show bt b p = 0 by omega, Int.mul_zero, Int.add_zero] at hbm
               rw [hbm]; exact hf)
            | (rw [show bt b p = 1 by omega, Int.mul_one] at hbm
               exact Or.inr ⟨by omega, by omega⟩)
      · refine s_iload_6 (pc := 85) dX9_laugh_85 ?_
        refine s_if_ne (pc := 87) 95 dX9_laugh_87 rfl (by omega) (fun h87 => ?_) (fun h87 => ?_)
        · refine s_aload_0 (pc := 95) dX9_laugh_95 ?_
          refine s_iload_1 (pc := 96) dX9_laugh_96 ?_
          refine s_iload_8 (pc := 97) dX9_laugh_97 ?_
          refine s_iload_6 (pc := 99) dX9_laugh_99 ?_
          refine s_if_eq (pc := 101) 116 dX9_laugh_101 rfl (by omega) (fun h101 => ?_) (fun h101 => ?_)
          · refine s_ldc2_w (pc := 116) dX9_laugh_116 rfl cnX9_206 ?_
            refine s_lload_3 (pc := 119) dX9_laugh_119 ?_
            refine s_lmul (pc := 120) dX9_laugh_120 ?_
            refine cV3v (pc := 121) (Ky := kX9_comes) dX9_laugh_121 rfl lnX9_208 okX9_comes ⟨9, TX9, 40, rfl, rfl⟩ ⟨Nat.le_of_ble_eq_true rfl, Nat.le_of_ble_eq_true rfl⟩ (Nat.le_of_ble_eq_true rfl) (c_X9_comes (law := law) (by rw [wa_n (by decide)]; exact e126) hlaw hs (by omega)) ?_
            rintro _ rfl
            refine s_iconst_0 (pc := 124) dX9_laugh_124 ?_
            refine s_istore_7 (pc := 125) dX9_laugh_125 (Nat.le_of_ble_eq_true rfl) rfl ?_
            refine s_iinc_8 (pc := 127) dX9_laugh_127 (Nat.le_of_ble_eq_true rfl) rfl ?_
            refine s_goto (pc := 130) 66 dX9_laugh_130 rfl ?_
            have hbm := bmod_succ (b := b) (p := p) (by omega)
            have hnn := bmod_nn (b := b) (p := p)
            have hpp := pw_pos (p := p)
            refine s_mem (lau_up h0 ?_) (ih _ (p + 1) (by omega) (by omega) ?_ (by omega))
            · rw [shp, if_neg hn, if_pos ⟨by omega, by omega⟩]
              by_cases hs2 : sev = 2
              · rw [if_pos hs2]
                first | done | (rw [show on b = 1 by omega]; rfl)
              · first | (exfalso; omega; done) | rw [if_neg hs2]
            · rw [show bt b p = 1 by omega, Int.mul_one] at hbm
              exact Or.inr ⟨rfl, by omega⟩
          · refine s_ldc2_w (pc := 104) dX9_laugh_104 rfl cnX9_206 ?_
            refine s_iload_5 (pc := 107) dX9_laugh_107 ?_
            refine s_i2l (pc := 109) dX9_laugh_109 (by omega) ?_
            refine s_ldiv (pc := 110) dX9_laugh_110 (by omega) (by omega) ?_
            rw [Int.tdiv_eq_ediv_of_nonneg (by omega)]
            refine s_lload_3 (pc := 111) dX9_laugh_111 ?_
            refine s_lmul (pc := 112) dX9_laugh_112 ?_
            refine s_goto (pc := 113) 121 dX9_laugh_113 rfl ?_
            refine cV3v (pc := 121) (Ky := kX9_comes) dX9_laugh_121 rfl lnX9_208 okX9_comes ⟨9, TX9, 40, rfl, rfl⟩ ⟨Nat.le_of_ble_eq_true rfl, Nat.le_of_ble_eq_true rfl⟩ (Nat.le_of_ble_eq_true rfl) (c_X9_comes (law := law) (by rw [wa_n (by decide)]; exact e126) hlaw hs (by omega)) ?_
            rintro _ rfl
            refine s_iconst_0 (pc := 124) dX9_laugh_124 ?_
            refine s_istore_7 (pc := 125) dX9_laugh_125 (Nat.le_of_ble_eq_true rfl) rfl ?_
            refine s_iinc_8 (pc := 127) dX9_laugh_127 (Nat.le_of_ble_eq_true rfl) rfl ?_
            refine s_goto (pc := 130) 66 dX9_laugh_130 rfl ?_
            have hbm := bmod_succ (b := b) (p := p) (by omega)
            have hnn := bmod_nn (b := b) (p := p)
            have hpp := pw_pos (p := p)
            refine s_mem (lau_up h0 ?_) (ih _ (p + 1) (by omega) (by omega) ?_ (by omega))
            · rw [shp, if_neg hn, if_pos ⟨by omega, by omega⟩]
              by_cases hs2 : sev = 2
              · rw [if_pos hs2]
                first | done | (rw [show on b = 1 by omega]; rfl)
              · first | (exfalso; omega; done) | rw [if_neg hs2]
            · rw [show bt b p = 1 by omega, Int.mul_one] at hbm
              exact Or.inr ⟨rfl, by omega⟩
        · refine s_iload_7 (pc := 90) dX9_laugh_90 ?_
          refine s_if_eq (pc := 92) 127 dX9_laugh_92 rfl (by omega) (fun h92 => ?_) (fun h92 => ?_)
          · refine s_iinc_8 (pc := 127) dX9_laugh_127 (Nat.le_of_ble_eq_true rfl) rfl ?_
            refine s_goto (pc := 130) 66 dX9_laugh_130 rfl ?_
            have hbm := bmod_succ (b := b) (p := p) (by omega)
            have hnn := bmod_nn (b := b) (p := p)
            have hpp := pw_pos (p := p)
            refine s_mem (lau_no h0 ?_) (ih _ (p + 1) (by omega) (by omega) ?_ (by omega))
            · rw [shp, if_neg hn, if_neg]
              rintro ⟨q1, q2⟩
              first | (exfalso; omega; done) | (have := on_two hb (p := p) (by omega) (by omega) (by omega); omega)
            · first
                | (rw [show bt b p = 0 by omega, Int.mul_zero, Int.add_zero] at hbm
                   rw [hbm]; exact hf)
                | (rw [show bt b p = 1 by omega, Int.mul_one] at hbm
                   exact Or.inr ⟨by omega, by omega⟩)
          · refine s_aload_0 (pc := 95) dX9_laugh_95 ?_
            refine s_iload_1 (pc := 96) dX9_laugh_96 ?_
            refine s_iload_8 (pc := 97) dX9_laugh_97 ?_
            refine s_iload_6 (pc := 99) dX9_laugh_99 ?_
            refine s_if_eq (pc := 101) 116 dX9_laugh_101 rfl (by omega) (fun h101 => ?_) (fun h101 => ?_)
            · refine s_ldc2_w (pc := 116) dX9_laugh_116 rfl cnX9_206 ?_
              refine s_lload_3 (pc := 119) dX9_laugh_119 ?_
              refine s_lmul (pc := 120) dX9_laugh_120 ?_
              refine cV3v (pc := 121) (Ky := kX9_comes) dX9_laugh_121 rfl lnX9_208 okX9_comes ⟨9, TX9, 40, rfl, rfl⟩ ⟨Nat.le_of_ble_eq_true rfl, Nat.le_of_ble_eq_true rfl⟩ (Nat.le_of_ble_eq_true rfl) (c_X9_comes (law := law) (by rw [wa_n (by decide)]; exact e126) hlaw hs (by omega)) ?_
              rintro _ rfl
              refine s_iconst_0 (pc := 124) dX9_laugh_124 ?_
              refine s_istore_7 (pc := 125) dX9_laugh_125 (Nat.le_of_ble_eq_true rfl) rfl ?_
              refine s_iinc_8 (pc := 127) dX9_laugh_127 (Nat.le_of_ble_eq_true rfl) rfl ?_
              refine s_goto (pc := 130) 66 dX9_laugh_130 rfl ?_
              have hbm := bmod_succ (b := b) (p := p) (by omega)
              have hnn := bmod_nn (b := b) (p := p)
              have hpp := pw_pos (p := p)
              refine s_mem (lau_up h0 ?_) (ih _ (p + 1) (by omega) (by omega) ?_ (by omega))
              · rw [shp, if_neg hn, if_pos ⟨by omega, by omega⟩]
                by_cases hs2 : sev = 2
                · rw [if_pos hs2]
                  first | done | (rw [show on b = 1 by omega]; rfl)
                · first | (exfalso; omega; done) | rw [if_neg hs2]
              · rw [show bt b p = 1 by omega, Int.mul_one] at hbm
                exact Or.inr ⟨rfl, by omega⟩
            · refine s_ldc2_w (pc := 104) dX9_laugh_104 rfl cnX9_206 ?_
              refine s_iload_5 (pc := 107) dX9_laugh_107 ?_
              refine s_i2l (pc := 109) dX9_laugh_109 (by omega) ?_
              refine s_ldiv (pc := 110) dX9_laugh_110 (by omega) (by omega) ?_
              rw [Int.tdiv_eq_ediv_of_nonneg (by omega)]
              refine s_lload_3 (pc := 111) dX9_laugh_111 ?_
              refine s_lmul (pc := 112) dX9_laugh_112 ?_
              refine s_goto (pc := 113) 121 dX9_laugh_113 rfl ?_
              refine cV3v (pc := 121) (Ky := kX9_comes) dX9_laugh_121 rfl lnX9_208 okX9_comes ⟨9, TX9, 40, rfl, rfl⟩ ⟨Nat.le_of_ble_eq_true rfl, Nat.le_of_ble_eq_true rfl⟩ (Nat.le_of_ble_eq_true rfl) (c_X9_comes (law := law) (by rw [wa_n (by decide)]; exact e126) hlaw hs (by omega)) ?_
              rintro _ rfl
              refine s_iconst_0 (pc := 124) dX9_laugh_124 ?_
              refine s_istore_7 (pc := 125) dX9_laugh_125 (Nat.le_of_ble_eq_true rfl) rfl ?_
              refine s_iinc_8 (pc := 127) dX9_laugh_127 (Nat.le_of_ble_eq_true rfl) rfl ?_
              refine s_goto (pc := 130) 66 dX9_laugh_130 rfl ?_
              have hbm := bmod_succ (b := b) (p := p) (by omega)
              have hnn := bmod_nn (b := b) (p := p)
              have hpp := pw_pos (p := p)
              refine s_mem (lau_up h0 ?_) (ih _ (p + 1) (by omega) (by omega) ?_ (by omega))
              · rw [shp, if_neg hn, if_pos ⟨by omega, by omega⟩]
                by_cases hs2 : sev = 2
                · rw [if_pos hs2]
                  first | done | (rw [show on b = 1 by omega]; rfl)
                · first | (exfalso; omega; done) | rw [if_neg hs2]
              · rw [show bt b p = 1 by omega, Int.mul_one] at hbm
                exact Or.inr ⟨rfl, by omega⟩
theorem c_X9_laugh {s b w sev law P : Int} {μ : Mem} (e127 : μ 127 0 = sev) (e126 : μ 126 0 = law) (e129 : μ 129 0 = P) (hsev : 0 ≤ sev ∧ sev ≤ 2) (hlaw : 0 ≤ law ∧ law ≤ 2) (hP : 0 ≤ P ∧ P ≤ 4) (hs : 0 ≤ s ∧ s < 50) (hb : 0 ≤ b ∧ b < 16) : Mc kX9_laugh [.inr (.inr 9), .inl s, .inl b, .inr (.inl w)] μ (pV (fun ν => wa μ 54 (fun k => μ 54 k + w * (stp sev b * ind k s + sm (fun p => shp sev b p * ind k (tgt law s p)) P.toNat)) = ν)) := by
  refine Mc_of (by decide +kernel) (fun _ => Nat.le_of_ble_eq_true rfl) ?_
  show AW kX9_laugh 0 [some (.inr (.inr 9)), some (.inl s), some (.inl b), some (.inr (.inl w)), none, none, none, none, none] [] μ _
  have hon := on_in (b := b)
  refine s_iload_2 (pc := 0) dX9_laugh_0 ?_
  refine cS1i (pc := 1) (Ky := kX9_ones) dX9_laugh_1 rfl lnX9_203 okX9_ones ⟨Nat.le_of_ble_eq_true rfl, Nat.le_of_ble_eq_true rfl⟩ (Nat.le_of_ble_eq_true rfl) (c_X9_ones (by omega)) ?_
  rintro _ _ ⟨rfl, rfl⟩
  refine s_istore_5 (pc := 4) dX9_laugh_4 (Nat.le_of_ble_eq_true rfl) rfl ?_
  refine s_iload_5 (pc := 6) dX9_laugh_6 ?_
  refine s_if_eq (pc := 8) 24 dX9_laugh_8 rfl (by omega) (fun h8 => ?_) (fun h8 => ?_)
  · refine s_aload_0 (pc := 24) dX9_laugh_24 ?_
    refine gfX9_56 (pc := 25) dX9_laugh_25 rfl ?_
    refine s_iload_1 (pc := 28) dX9_laugh_28 ?_
    refine s_dup2 (pc := 29) dX9_laugh_29 rfl rfl ?_
    refine z_laload (pc := 30) dX9_laugh_30 ly_54 (by omega) (by omega) ?_
    refine s_ldc2_w (pc := 31) dX9_laugh_31 rfl cnX9_206 ?_
    refine s_lload_3 (pc := 34) dX9_laugh_34 ?_
    refine s_lmul (pc := 35) dX9_laugh_35 ?_
    refine s_ladd (pc := 36) dX9_laugh_36 ?_
    refine z_lastore (pc := 37) dX9_laugh_37 ly_54 ip_54 (by omega) (by omega) ?_
    refine s_return (pc := 38) dX9_laugh_38 rfl ?_
    exact lau_st (by omega)
  · refine s_iload_5 (pc := 11) dX9_laugh_11 ?_
    refine s_iconst_1 (pc := 13) dX9_laugh_13 ?_
    refine s_icmp_le (pc := 14) 39 dX9_laugh_14 rfl (by omega) (by omega) (fun h14 => ?_) (fun h14 => ?_)
    · refine s_iload_5 (pc := 39) dX9_laugh_39 ?_
      refine s_iconst_1 (pc := 41) dX9_laugh_41 ?_
      refine s_icmp_le (pc := 42) 57 dX9_laugh_42 rfl (by omega) (by omega) (fun h42 => ?_) (fun h42 => ?_)
      · refine s_iconst_0 (pc := 57) dX9_laugh_57 ?_
        refine s_istore_6 (pc := 58) dX9_laugh_58 (Nat.le_of_ble_eq_true rfl) rfl ?_
        refine s_iconst_1 (pc := 60) dX9_laugh_60 ?_
        refine s_istore_7 (pc := 61) dX9_laugh_61 (Nat.le_of_ble_eq_true rfl) rfl ?_
        refine s_iconst_0 (pc := 63) dX9_laugh_63 ?_
        refine s_istore_8 (pc := 64) dX9_laugh_64 (Nat.le_of_ble_eq_true rfl) rfl ?_
        refine s_mem ?_ (lp_X9_laugh e127 e126 e129 hsev hlaw hP hs hb (by omega) (by omega) 5 1 0 (by omega) (by omega) (Or.inl ⟨rfl, by show b % 1 = 0; omega⟩) (by omega))
        refine (wa_self fun k => ?_).symm
        show μ 54 k + w * 0 = μ 54 k
        omega
      · refine s_aload_0 (pc := 45) dX9_laugh_45 ?_
        refine gfX9_177 (pc := 46) dX9_laugh_46 rfl ?_
        refine s_iconst_2 (pc := 49) dX9_laugh_49 ?_
        refine s_icmp_ne (pc := 50) 57 dX9_laugh_50 rfl (by omega) (by omega) (fun h50 => ?_) (fun h50 => ?_)
        · refine s_iconst_0 (pc := 57) dX9_laugh_57 ?_
          refine s_istore_6 (pc := 58) dX9_laugh_58 (Nat.le_of_ble_eq_true rfl) rfl ?_
          refine s_iconst_1 (pc := 60) dX9_laugh_60 ?_
          refine s_istore_7 (pc := 61) dX9_laugh_61 (Nat.le_of_ble_eq_true rfl) rfl ?_
          refine s_iconst_0 (pc := 63) dX9_laugh_63 ?_
          refine s_istore_8 (pc := 64) dX9_laugh_64 (Nat.le_of_ble_eq_true rfl) rfl ?_
          refine s_mem ?_ (lp_X9_laugh e127 e126 e129 hsev hlaw hP hs hb (by omega) (by omega) 5 1 0 (by omega) (by omega) (Or.inl ⟨rfl, by show b % 1 = 0; omega⟩) (by omega))
          refine (wa_self fun k => ?_).symm
          show μ 54 k + w * 0 = μ 54 k
          omega
        · refine s_iconst_1 (pc := 53) dX9_laugh_53 ?_
          refine s_goto (pc := 54) 58 dX9_laugh_54 rfl ?_
          refine s_istore_6 (pc := 58) dX9_laugh_58 (Nat.le_of_ble_eq_true rfl) rfl ?_
          refine s_iconst_1 (pc := 60) dX9_laugh_60 ?_
          refine s_istore_7 (pc := 61) dX9_laugh_61 (Nat.le_of_ble_eq_true rfl) rfl ?_
          refine s_iconst_0 (pc := 63) dX9_laugh_63 ?_
          refine s_istore_8 (pc := 64) dX9_laugh_64 (Nat.le_of_ble_eq_true rfl) rfl ?_
          refine s_mem ?_ (lp_X9_laugh e127 e126 e129 hsev hlaw hP hs hb (by omega) (by omega) 5 1 0 (by omega) (by omega) (Or.inl ⟨rfl, by show b % 1 = 0; omega⟩) (by omega))
          refine (wa_self fun k => ?_).symm
          show μ 54 k + w * 0 = μ 54 k
          omega
    · refine s_aload_0 (pc := 17) dX9_laugh_17 ?_
      refine gfX9_177 (pc := 18) dX9_laugh_18 rfl ?_
      refine s_if_ne (pc := 21) 39 dX9_laugh_21 rfl (by omega) (fun h21 => ?_) (fun h21 => ?_)
      · refine s_iload_5 (pc := 39) dX9_laugh_39 ?_
        refine s_iconst_1 (pc := 41) dX9_laugh_41 ?_
        refine s_icmp_le (pc := 42) 57 dX9_laugh_42 rfl (by omega) (by omega) (fun h42 => ?_) (fun h42 => ?_)
        · refine s_iconst_0 (pc := 57) dX9_laugh_57 ?_
          refine s_istore_6 (pc := 58) dX9_laugh_58 (Nat.le_of_ble_eq_true rfl) rfl ?_
          refine s_iconst_1 (pc := 60) dX9_laugh_60 ?_
          refine s_istore_7 (pc := 61) dX9_laugh_61 (Nat.le_of_ble_eq_true rfl) rfl ?_
          refine s_iconst_0 (pc := 63) dX9_laugh_63 ?_
          refine s_istore_8 (pc := 64) dX9_laugh_64 (Nat.le_of_ble_eq_true rfl) rfl ?_
          refine s_mem ?_ (lp_X9_laugh e127 e126 e129 hsev hlaw hP hs hb (by omega) (by omega) 5 1 0 (by omega) (by omega) (Or.inl ⟨rfl, by show b % 1 = 0; omega⟩) (by omega))
          refine (wa_self fun k => ?_).symm
          show μ 54 k + w * 0 = μ 54 k
          omega
        · refine s_aload_0 (pc := 45) dX9_laugh_45 ?_
          refine gfX9_177 (pc := 46) dX9_laugh_46 rfl ?_
          refine s_iconst_2 (pc := 49) dX9_laugh_49 ?_
          refine s_icmp_ne (pc := 50) 57 dX9_laugh_50 rfl (by omega) (by omega) (fun h50 => ?_) (fun h50 => ?_)
          · refine s_iconst_0 (pc := 57) dX9_laugh_57 ?_
            refine s_istore_6 (pc := 58) dX9_laugh_58 (Nat.le_of_ble_eq_true rfl) rfl ?_
            refine s_iconst_1 (pc := 60) dX9_laugh_60 ?_
            refine s_istore_7 (pc := 61) dX9_laugh_61 (Nat.le_of_ble_eq_true rfl) rfl ?_
            refine s_iconst_0 (pc := 63) dX9_laugh_63 ?_
            refine s_istore_8 (pc := 64) dX9_laugh_64 (Nat.le_of_ble_eq_true rfl) rfl ?_
            refine s_mem ?_ (lp_X9_laugh e127 e126 e129 hsev hlaw hP hs hb (by omega) (by omega) 5 1 0 (by omega) (by omega) (Or.inl ⟨rfl, by show b % 1 = 0; omega⟩) (by omega))
            refine (wa_self fun k => ?_).symm
            show μ 54 k + w * 0 = μ 54 k
            omega
          · refine s_iconst_1 (pc := 53) dX9_laugh_53 ?_
            refine s_goto (pc := 54) 58 dX9_laugh_54 rfl ?_
            refine s_istore_6 (pc := 58) dX9_laugh_58 (Nat.le_of_ble_eq_true rfl) rfl ?_
            refine s_iconst_1 (pc := 60) dX9_laugh_60 ?_
            refine s_istore_7 (pc := 61) dX9_laugh_61 (Nat.le_of_ble_eq_true rfl) rfl ?_
            refine s_iconst_0 (pc := 63) dX9_laugh_63 ?_
            refine s_istore_8 (pc := 64) dX9_laugh_64 (Nat.le_of_ble_eq_true rfl) rfl ?_
            refine s_mem ?_ (lp_X9_laugh e127 e126 e129 hsev hlaw hP hs hb (by omega) (by omega) 5 1 0 (by omega) (by omega) (Or.inl ⟨rfl, by show b % 1 = 0; omega⟩) (by omega))
            refine (wa_self fun k => ?_).symm
            show μ 54 k + w * 0 = μ 54 k
            omega
      · refine s_aload_0 (pc := 24) dX9_laugh_24 ?_
        refine gfX9_56 (pc := 25) dX9_laugh_25 rfl ?_
        refine s_iload_1 (pc := 28) dX9_laugh_28 ?_
        refine s_dup2 (pc := 29) dX9_laugh_29 rfl rfl ?_
        refine z_laload (pc := 30) dX9_laugh_30 ly_54 (by omega) (by omega) ?_
        refine s_ldc2_w (pc := 31) dX9_laugh_31 rfl cnX9_206 ?_
        refine s_lload_3 (pc := 34) dX9_laugh_34 ?_
        refine s_lmul (pc := 35) dX9_laugh_35 ?_
        refine s_ladd (pc := 36) dX9_laugh_36 ?_
        refine z_lastore (pc := 37) dX9_laugh_37 ly_54 ip_54 (by omega) (by omega) ?_
        refine s_return (pc := 38) dX9_laugh_38 rfl ?_
        exact lau_st (by omega)
