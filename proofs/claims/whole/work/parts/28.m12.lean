theorem shl1 {k : Int} (h : 0 ≤ k ∧ k ≤ 8) : shlI 1 k = (2 : Int) ^ k.toNat := by
  rcases (show k = 0 ∨ k = 1 ∨ k = 2 ∨ k = 3 ∨ k = 4 ∨ k = 5 ∨ k = 6 ∨ k = 7 ∨ k = 8 by omega) with rfl | rfl | rfl | rfl | rfl | rfl | rfl | rfl | rfl <;> decide
theorem pw_small {k : Int} (h : 0 ≤ k ∧ k ≤ 4) : 1 ≤ (2 : Int) ^ k.toNat ∧ (2 : Int) ^ k.toNat ≤ 16 := by
  rcases (show k = 0 ∨ k = 1 ∨ k = 2 ∨ k = 3 ∨ k = 4 by omega) with rfl | rfl | rfl | rfl | rfl <;> decide
theorem pw_nat {k : Int} : (((2 : Nat) ^ k.toNat : Nat) : Int) = (2 : Int) ^ k.toNat := by
  rw [Int.natCast_pow]; rfl
theorem rg1 (d A w st I X Y : Int) : d * ((A + w * st) * I + (X + w * Y)) = d * (A * I + X) + d * w * (st * I + Y) := by grind
/-- what one set adds -/
def addS (κ : Mem) (W b : Int) (D : Int → Int) (k s : Int) : Int := D s * W * (stp (κ 127 0) b * ind k s + sm (fun p => shp (κ 127 0) b p * ind k (tgt (κ 126 0) s p)) (κ 129 0).toNat)
theorem stD_up {κ : Mem} {i b k : Int} {D : Int → Int} (h : 0 ≤ b) : stD (κ 126 0) (κ 129 0).toNat (styN κ i (b + 1).toNat) (fun p => pasN κ i p (b + 1).toNat) D k = stD (κ 126 0) (κ 129 0).toNat (styN κ i b.toNat) (fun p => pasN κ i p b.toNat) D k + sm (addS κ (wy κ i b) b D k) 50 := by
  unfold stD
  rw [← sm_add]
  refine sm_congr fun s _ _ => ?_
  unfold styN pasN addS
  have h1 : sm (fun p => sm (fun b => wy κ i b * shp (κ 127 0) b p) (b + 1).toNat * ind k (tgt (κ 126 0) s p)) (κ 129 0).toNat = sm (fun p => sm (fun b => wy κ i b * shp (κ 127 0) b p) b.toNat * ind k (tgt (κ 126 0) s p)) (κ 129 0).toNat + wy κ i b * sm (fun p => shp (κ 127 0) b p * ind k (tgt (κ 126 0) s p)) (κ 129 0).toNat := by
    rw [← sm_mul, ← sm_add]
    refine sm_congr fun p _ _ => ?_
    rw [sm_succ h, Int.add_mul, Int.mul_assoc]
  rw [h1, sm_succ h]
  exact rg1 _ _ _ _ _ _ _
theorem stD_0 {law : Int} {P : Nat} {D : Int → Int} {k : Int} : stD law P 0 (fun _ => 0) D k = 0 := by
  unfold stD
  refine sm_zero fun s _ _ => ?_
  rw [sm_zero (fun p _ _ => Int.zero_mul _)]
  simp
theorem lp_X9_tells5 {κ : Mem} {i : Int} {μ : Mem} {g : Int → Int} : ∀ (f : Nat) (j : Int) (ν : Mem), (0 ≤ j) → (j ≤ 50) → (Fr [53, 54] μ ν) → (∀ k : Int, 0 ≤ k → k < 50 → ν 54 k = g k) → (∀ k : Int, 0 ≤ k → k < j → ν 53 k = g k) → 50 - j < (f : Int) → AW kX9_tells 154 [some (.inr (.inr 9)), some (.inl i), some (.inl j), none, none, none, none] [] ν (pV (fun ν => Fr [53, 54] μ ν ∧ ∀ k : Int, 0 ≤ k → k < 50 → ν 53 k = g k)) := by
  intro f
  induction f with
  | zero =>
    intro j ν h0 h1 hF hn hc hm
    exfalso; omega
  | succ f ih =>
    intro j ν h0 h1 hF hn hc hm
    refine s_iload_2 (pc := 154) dX9_tells_154 ?_
    refine s_bipush (pc := 155) (z := 50) dX9_tells_155 rfl ?_
    refine s_icmp_ge (pc := 157) 178 dX9_tells_157 rfl (by omega) (by omega) (fun h157 => ?_) (fun h157 => ?_)
    · refine s_return (pc := 178) dX9_tells_178 rfl ?_
      exact ⟨hF, fun k k0 k1 => hc k k0 (by omega)⟩
    · refine s_aload_0 (pc := 160) dX9_tells_160 ?_
      refine gfX9_52 (pc := 161) dX9_tells_161 rfl ?_
      refine s_iload_2 (pc := 164) dX9_tells_164 ?_
      refine s_aload_0 (pc := 165) dX9_tells_165 ?_
      refine gfX9_56 (pc := 166) dX9_tells_166 rfl ?_
      refine s_iload_2 (pc := 169) dX9_tells_169 ?_
      refine z_laload (pc := 170) dX9_tells_170 ly_54 (by omega) (by omega) ?_
      refine z_lastore (pc := 171) dX9_tells_171 ly_53 ip_53 (by omega) (by omega) ?_
      refine s_iinc_2 (pc := 172) dX9_tells_172 (Nat.le_of_ble_eq_true rfl) rfl ?_
      refine s_goto (pc := 175) 154 dX9_tells_175 rfl ?_
      refine ih (j + 1) _ (by omega) (by omega) (hF.wr (by decide)) (fun k k0 k1 => ?_) (fun k k0 k1 => ?_) (by omega)
      · simp (decide := true) only [wr_s, wr_n, wa_s, wa_n, mg_i, mg_o, if_true, eq_self, reduceIte]; exact hn k k0 k1
      · simp (decide := true) only [wr_s, wr_n, wa_s, wa_n, mg_i, mg_o, if_true, eq_self, reduceIte]
        by_cases hk : k = j
        · rw [if_pos hk, hk]; exact hn j h0 (by omega)
        · rw [if_neg hk]; exact hc k k0 (by omega)
theorem wyN_succ {κ : Mem} {i b p : Int} (h : 0 ≤ p) : wyN κ i b (p + 1).toNat = wyN κ i b p.toNat * (if bt b p = 1 then qk κ i p else 4 - qk κ i p) := by
  rw [show (p + 1).toNat = p.toNat + 1 by omega]
  show wyN κ i b p.toNat * (if bt b ((p.toNat : Nat) : Int) = 1 then qk κ i ((p.toNat : Nat) : Int) else 4 - qk κ i ((p.toNat : Nat) : Int)) = _
  rw [show ((p.toNat : Nat) : Int) = p by omega]
theorem lp_X9_tells3 {κ : Mem} {i : Int} {μ : Mem} {b : Int} {ν : Mem} {post : Option AV → Mem → Prop} (hM : MR κ ν) (hi : 0 ≤ i ∧ i < 4) (hb : 0 ≤ b ∧ b < 16) (hk : AW kX9_tells 96 [some (.inr (.inr 9)), some (.inl i), some (.inl b), some (.inr (.inl (wy κ i b))), none, some (.inl 4), none] [] ν post) : ∀ (f : Nat) (p : Int), (0 ≤ p) → (p ≤ 4) → 4 - p < (f : Int) → AW kX9_tells 38 [some (.inr (.inr 9)), some (.inl i), some (.inl b), some (.inr (.inl (wyN κ i b p.toNat))), none, some (.inl p), none] [] ν (post) := by
  intro f
  induction f with
  | zero =>
    intro p h0 h1 hm
    exfalso; omega
  | succ f ih =>
    intro p h0 h1 hm
    have hkr := hM.1
    obtain ⟨⟨r129, r125, r126, r127, r128, r130, rP, r124, r44⟩, m129, m125, m126, m127, m128, m130, mP, m124, m44⟩ := id hM
    refine s_iload_5 (pc := 38) dX9_tells_38 ?_
    refine s_iconst_4 (pc := 40) dX9_tells_40 ?_
    refine s_icmp_ge (pc := 41) 96 dX9_tells_41 rfl (by omega) (by omega) (fun h41 => ?_) (fun h41 => ?_)
    · cases (show p = 4 by omega)
      refine s_le ?_ hk
      exact ⟨Or.inr rfl, Or.inr rfl, Or.inr rfl, Or.inr rfl, Or.inl rfl, Or.inr rfl, Or.inl rfl, trivial⟩
    · refine s_iload_5 (pc := 44) dX9_tells_44 ?_
      refine s_aload_0 (pc := 46) dX9_tells_46 ?_
      refine gfX9_171 (pc := 47) dX9_tells_47 rfl ?_
      refine s_icmp_ge (pc := 50) 63 dX9_tells_50 rfl (by omega) (by omega) (fun h50 => ?_) (fun h50 => ?_)
      · have hqe : qk κ i p = 0 := by rw [qk, if_neg (by omega)]
        refine s_iconst_0 (pc := 63) dX9_tells_63 ?_
        refine s_istore_6 (pc := 64) dX9_tells_64 (Nat.le_of_ble_eq_true rfl) rfl ?_
        refine s_lload_3 (pc := 66) dX9_tells_66 ?_
        refine s_iload_2 (pc := 67) dX9_tells_67 ?_
        refine s_iload_5 (pc := 68) dX9_tells_68 ?_
        refine s_ishr (pc := 70) dX9_tells_70 ?_
        refine s_iconst_1 (pc := 71) dX9_tells_71 ?_
        refine s_iand (pc := 72) dX9_tells_72 ?_
        rw [shr_bt (by omega) (by omega)]
        have hbt := bt_in (b := b) (k := p)
        refine s_iconst_1 (pc := 73) dX9_tells_73 ?_
        refine s_icmp_ne (pc := 74) 83 dX9_tells_74 rfl (by omega) (by omega) (fun h74 => ?_) (fun h74 => ?_)
        · refine s_iconst_4 (pc := 83) dX9_tells_83 ?_
          refine s_iload_6 (pc := 84) dX9_tells_84 ?_
          refine s_isub (pc := 86) dX9_tells_86 ?_
          refine s_i2l (pc := 87) dX9_tells_87 (by omega) ?_
          refine s_lmul (pc := 88) dX9_tells_88 ?_
          refine s_valL (y := wyN κ i b (p + 1).toNat) ?_ ?_
          · rw [wyN_succ h0, hqe]
            first | (rw [if_pos (by omega)]; done) | rw [if_neg (by omega)]
          refine s_lstore_3 (pc := 89) dX9_tells_89 (Nat.le_of_ble_eq_true rfl) rfl ?_
          refine s_iinc_5 (pc := 90) dX9_tells_90 (Nat.le_of_ble_eq_true rfl) rfl ?_
          refine s_goto (pc := 93) 38 dX9_tells_93 rfl ?_
          refine s_le ?_ (ih (p + 1) (by omega) (by omega) (by omega))
          exact ⟨Or.inr rfl, Or.inr rfl, Or.inr rfl, Or.inr rfl, Or.inl rfl, Or.inr rfl, Or.inl rfl, trivial⟩
        · refine s_iload_6 (pc := 77) dX9_tells_77 ?_
          refine s_i2l (pc := 79) dX9_tells_79 (by omega) ?_
          refine s_goto (pc := 80) 88 dX9_tells_80 rfl ?_
          refine s_lmul (pc := 88) dX9_tells_88 ?_
          refine s_valL (y := wyN κ i b (p + 1).toNat) ?_ ?_
          · rw [wyN_succ h0, hqe]
            first | (rw [if_pos (by omega)]; done) | rw [if_neg (by omega)]
          refine s_lstore_3 (pc := 89) dX9_tells_89 (Nat.le_of_ble_eq_true rfl) rfl ?_
          refine s_iinc_5 (pc := 90) dX9_tells_90 (Nat.le_of_ble_eq_true rfl) rfl ?_
          refine s_goto (pc := 93) 38 dX9_tells_93 rfl ?_
          refine s_le ?_ (ih (p + 1) (by omega) (by omega) (by omega))
          exact ⟨Or.inr rfl, Or.inr rfl, Or.inr rfl, Or.inr rfl, Or.inl rfl, Or.inr rfl, Or.inl rfl, trivial⟩
      · have hqe : qk κ i p = kq κ p i := by rw [qk, if_pos (by omega)]
        have hqi := kq_in hkr (p := p) (i := i) (by omega) hi
        refine s_aload_0 (pc := 53) dX9_tells_53 ?_
        refine s_iload_5 (pc := 54) dX9_tells_54 ?_
        refine s_iload_1 (pc := 56) dX9_tells_56 ?_
        refine cV2i (pc := 57) (Ky := kX9_quartersNow) dX9_tells_57 rfl lnX9_197 okX9_quartersNow ⟨9, TX9, 40, rfl, rfl⟩ ⟨Nat.le_of_ble_eq_true rfl, Nat.le_of_ble_eq_true rfl⟩ (Nat.le_of_ble_eq_true rfl) (c_X9_quartersNow hM (by omega) hi) ?_
        rintro _ _ ⟨rfl, rfl⟩
        refine s_goto (pc := 60) 64 dX9_tells_60 rfl ?_
        refine s_istore_6 (pc := 64) dX9_tells_64 (Nat.le_of_ble_eq_true rfl) rfl ?_
        refine s_lload_3 (pc := 66) dX9_tells_66 ?_
        refine s_iload_2 (pc := 67) dX9_tells_67 ?_
        refine s_iload_5 (pc := 68) dX9_tells_68 ?_
        refine s_ishr (pc := 70) dX9_tells_70 ?_
        refine s_iconst_1 (pc := 71) dX9_tells_71 ?_
        refine s_iand (pc := 72) dX9_tells_72 ?_
        rw [shr_bt (by omega) (by omega)]
        have hbt := bt_in (b := b) (k := p)
        refine s_iconst_1 (pc := 73) dX9_tells_73 ?_
        refine s_icmp_ne (pc := 74) 83 dX9_tells_74 rfl (by omega) (by omega) (fun h74 => ?_) (fun h74 => ?_)
        · refine s_iconst_4 (pc := 83) dX9_tells_83 ?_
          refine s_iload_6 (pc := 84) dX9_tells_84 ?_
          refine s_isub (pc := 86) dX9_tells_86 ?_
          refine s_i2l (pc := 87) dX9_tells_87 (by omega) ?_
          refine s_lmul (pc := 88) dX9_tells_88 ?_
          refine s_valL (y := wyN κ i b (p + 1).toNat) ?_ ?_
          · rw [wyN_succ h0, hqe]
            first | (rw [if_pos (by omega)]; done) | rw [if_neg (by omega)]
          refine s_lstore_3 (pc := 89) dX9_tells_89 (Nat.le_of_ble_eq_true rfl) rfl ?_
          refine s_iinc_5 (pc := 90) dX9_tells_90 (Nat.le_of_ble_eq_true rfl) rfl ?_
          refine s_goto (pc := 93) 38 dX9_tells_93 rfl ?_
          refine s_le ?_ (ih (p + 1) (by omega) (by omega) (by omega))
          exact ⟨Or.inr rfl, Or.inr rfl, Or.inr rfl, Or.inr rfl, Or.inl rfl, Or.inr rfl, Or.inl rfl, trivial⟩
        · refine s_iload_6 (pc := 77) dX9_tells_77 ?_
          refine s_i2l (pc := 79) dX9_tells_79 (by omega) ?_
          refine s_goto (pc := 80) 88 dX9_tells_80 rfl ?_
          refine s_lmul (pc := 88) dX9_tells_88 ?_
          refine s_valL (y := wyN κ i b (p + 1).toNat) ?_ ?_
          · rw [wyN_succ h0, hqe]
            first | (rw [if_pos (by omega)]; done) | rw [if_neg (by omega)]
          refine s_lstore_3 (pc := 89) dX9_tells_89 (Nat.le_of_ble_eq_true rfl) rfl ?_
          refine s_iinc_5 (pc := 90) dX9_tells_90 (Nat.le_of_ble_eq_true rfl) rfl ?_
          refine s_goto (pc := 93) 38 dX9_tells_93 rfl ?_
          refine s_le ?_ (ih (p + 1) (by omega) (by omega) (by omega))
          exact ⟨Or.inr rfl, Or.inr rfl, Or.inr rfl, Or.inr rfl, Or.inl rfl, Or.inr rfl, Or.inl rfl, trivial⟩
theorem lp_X9_tells4 {κ : Mem} {i : Int} {μ : Mem} {b : Int} {g : Int → Int} {post : Option AV → Mem → Prop} (hM : MR κ μ) (hi : 0 ≤ i ∧ i < 4) (hb : 0 ≤ b ∧ b < 16) (hD : ∀ k : Int, 0 ≤ k → k < 50 → 0 ≤ μ 53 k ∧ μ 53 k < 4611686018427387904) (hk : ∀ ν, Fr [54] μ ν → (∀ k : Int, 0 ≤ k → k < 50 → ν 54 k = g k + sm (addS κ (wy κ i b) b (μ 53) k) 50) → AW kX9_tells 146 [some (.inr (.inr 9)), some (.inl i), some (.inl b), none, none, none, none] [] ν post) : ∀ (f : Nat) (s : Int) (ν : Mem), (0 ≤ s) → (s ≤ 50) → (Fr [54] μ ν) → (∀ k : Int, 0 ≤ k → k < 50 → ν 54 k = g k + sm (addS κ (wy κ i b) b (μ 53) k) s.toNat) → 50 - s < (f : Int) → AW kX9_tells 99 [some (.inr (.inr 9)), some (.inl i), some (.inl b), some (.inr (.inl (wy κ i b))), none, some (.inl s), none] [] ν (post) := by
  intro f
  induction f with
  | zero =>
    intro s ν h0 h1 hF hn hm
    exfalso; omega
  | succ f ih =>
    intro s ν h0 h1 hF hn hm
    have hW := wy_in hM.1 (b := b) hi
    obtain ⟨⟨r129, r125, r126, r127, r128, r130, rP, r124, r44⟩, m129, m125, m126, m127, m128, m130, mP, m124, m44⟩ := id hM
    have f53 : ν 53 = μ 53 := hF.fn 53 rfl
    have f127 : ν 127 0 = κ 127 0 := (hF.at 127 rfl 0).trans m127
    have f126 : ν 126 0 = κ 126 0 := (hF.at 126 rfl 0).trans m126
    have f129 : ν 129 0 = κ 129 0 := (hF.at 129 rfl 0).trans m129
    refine s_iload_5 (pc := 99) dX9_tells_99 ?_
    refine s_bipush (pc := 101) (z := 50) dX9_tells_101 rfl ?_
    refine s_icmp_ge (pc := 103) 146 dX9_tells_103 rfl (by omega) (by omega) (fun h103 => ?_) (fun h103 => ?_)
    · refine s_le ?_ (hk ν hF fun k k0 k1 => ?_)
      · exact ⟨Or.inr rfl, Or.inr rfl, Or.inr rfl, Or.inl rfl, Or.inl rfl, Or.inl rfl, Or.inl rfl, trivial⟩
      · first
          | (cases (show s = 50 by omega)
             exact hn k k0 k1)
          | (have hz : ∀ m : Nat, sm (addS κ (wy κ i b) b (μ 53) k) m = 0 := fun m => sm_zero fun x _ _ => by rw [addS, show wy κ i b = 0 by omega, Int.mul_zero, Int.zero_mul]
             rw [hz 50, hn k k0 k1, hz s.toNat])
    · have hDs := hD s h0 (by omega)
      refine s_lload_3 (pc := 106) dX9_tells_106 ?_
      refine s_lconst_0 (pc := 107) dX9_tells_107 ?_
      refine s_lif_le (pc := 108) 146 dX9_tells_108 dX9_tells_109 rfl (by omega) (by omega) (fun h109 => ?_) (fun h109 => ?_)
      · refine s_le ?_ (hk ν hF fun k k0 k1 => ?_)
        · exact ⟨Or.inr rfl, Or.inr rfl, Or.inr rfl, Or.inl rfl, Or.inl rfl, Or.inl rfl, Or.inl rfl, trivial⟩
        · first
            | (cases (show s = 50 by omega)
               exact hn k k0 k1)
            | (have hz : ∀ m : Nat, sm (addS κ (wy κ i b) b (μ 53) k) m = 0 := fun m => sm_zero fun x _ _ => by rw [addS, show wy κ i b = 0 by omega, Int.mul_zero, Int.zero_mul]
               rw [hz 50, hn k k0 k1, hz s.toNat])
      · refine s_aload_0 (pc := 112) dX9_tells_112 ?_
        refine gfX9_52 (pc := 113) dX9_tells_113 rfl ?_
        refine s_iload_5 (pc := 116) dX9_tells_116 ?_
        refine z_laload (pc := 118) dX9_tells_118 ly_53 (by omega) (by omega) ?_
        rw [f53]
        refine s_lconst_0 (pc := 119) dX9_tells_119 ?_
        refine s_lif_le (pc := 120) 140 dX9_tells_120 dX9_tells_121 rfl (by omega) (by omega) (fun h121 => ?_) (fun h121 => ?_)
        · refine s_iinc_5 (pc := 140) dX9_tells_140 (Nat.le_of_ble_eq_true rfl) rfl ?_
          refine s_goto (pc := 143) 99 dX9_tells_143 rfl ?_
          first
            | (refine ih (s + 1) _ (by omega) (by omega) hF (fun k k0 k1 => ?_) (by omega)
               rw [hn k k0 k1, sm_succ h0, addS, show μ 53 s = 0 by omega, Int.zero_mul, Int.zero_mul, Int.add_zero]
               done)
            | (refine ih (s + 1) _ (by omega) (by omega) (hF.wa (by decide)) (fun k k0 k1 => ?_) (by omega)
               rw [wa_s, hn k k0 k1, sm_succ h0, addS]
               omega)
        · refine s_aload_0 (pc := 124) dX9_tells_124 ?_
          refine s_iload_5 (pc := 125) dX9_tells_125 ?_
          refine s_iload_2 (pc := 127) dX9_tells_127 ?_
          refine s_aload_0 (pc := 128) dX9_tells_128 ?_
          refine gfX9_52 (pc := 129) dX9_tells_129 rfl ?_
          refine s_iload_5 (pc := 132) dX9_tells_132 ?_
          refine z_laload (pc := 134) dX9_tells_134 ly_53 (by omega) (by omega) ?_
          rw [f53]
          refine s_lload_3 (pc := 135) dX9_tells_135 ?_
          refine s_lmul (pc := 136) dX9_tells_136 ?_
          refine cV3v (pc := 137) (Ky := kX9_laugh) dX9_tells_137 rfl lnX9_212 okX9_laugh ⟨9, TX9, 40, rfl, rfl⟩ ⟨Nat.le_of_ble_eq_true rfl, Nat.le_of_ble_eq_true rfl⟩ (Nat.le_of_ble_eq_true rfl) (c_X9_laugh f127 f126 f129 r127 r126 r129 (by omega) hb) ?_
          rintro _ rfl
          refine s_iinc_5 (pc := 140) dX9_tells_140 (Nat.le_of_ble_eq_true rfl) rfl ?_
          refine s_goto (pc := 143) 99 dX9_tells_143 rfl ?_
          first
            | (refine ih (s + 1) _ (by omega) (by omega) hF (fun k k0 k1 => ?_) (by omega)
               rw [hn k k0 k1, sm_succ h0, addS, show μ 53 s = 0 by omega, Int.zero_mul, Int.zero_mul, Int.add_zero]
               done)
            | (refine ih (s + 1) _ (by omega) (by omega) (hF.wa (by decide)) (fun k k0 k1 => ?_) (by omega)
               rw [wa_s, hn k k0 k1, sm_succ h0, addS]
               omega)
theorem MR.fr {κ μ ν : Mem} {F : List Nat} (hM : MR κ μ) (hF : Fr F μ ν) (h : F.all (fun c => c == 53 || c == 54) = true) : MR κ ν := by
  have hc : ∀ c : Nat, c ≠ 53 → c ≠ 54 → ∀ k, ν c k = μ c k := fun c h1 h2 k => by
    rw [hF c (fun q => ?_)]
    have := List.all_eq_true.mp h c q
    simp at this
    omega
  obtain ⟨h1, m129, m125, m126, m127, m128, m130, mP, m124, m44⟩ := hM
  refine ⟨h1, by rw [hc 129 (by decide) (by decide)]; exact m129, by rw [hc 125 (by decide) (by decide)]; exact m125, by rw [hc 126 (by decide) (by decide)]; exact m126, by rw [hc 127 (by decide) (by decide)]; exact m127, by rw [hc 128 (by decide) (by decide)]; exact m128, by rw [hc 130 (by decide) (by decide)]; exact m130, fun p p0 p1 => ?_, by rw [hc 124 (by decide) (by decide)]; exact m124, fun k k0 k1 => by rw [hc 44 (by decide) (by decide)]; exact m44 k k0 k1⟩
  rw [hc 49 (by decide) (by decide), hc 50 (by decide) (by decide), hc 51 (by decide) (by decide), hc 52 (by decide) (by decide)]
  exact mP p p0 p1
theorem lp_X9_tells2 {κ : Mem} {i : Int} {μ : Mem} (hM : MR κ μ) (hi : 0 ≤ i ∧ i < 4) (hD : ∀ k : Int, 0 ≤ k → k < 50 → 0 ≤ μ 53 k ∧ μ 53 k < 4611686018427387904) : ∀ (f : Nat) (b : Int) (ν : Mem), (0 ≤ b) → (b ≤ (2 : Int) ^ (κ 129 0).toNat) → (Fr [54] μ ν) → (∀ k : Int, 0 ≤ k → k < 50 → ν 54 k = stD (κ 126 0) (κ 129 0).toNat (styN κ i b.toNat) (fun p => pasN κ i p b.toNat) (μ 53) k) → (2 : Int) ^ (κ 129 0).toNat - b < (f : Int) → AW kX9_tells 23 [some (.inr (.inr 9)), some (.inl i), some (.inl b), none, none, none, none] [] ν (pV (fun ν => Fr [53, 54] μ ν ∧ ∀ k : Int, 0 ≤ k → k < 50 → ν 53 k = stD (κ 126 0) (κ 129 0).toNat (sty κ i) (pas κ i) (μ 53) k)) := by
  intro f
  induction f with
  | zero =>
    intro b ν h0 h1 hF hn hm
    exfalso; omega
  | succ f ih =>
    intro b ν h0 h1 hF hn hm
    have hkr := hM.1
    have r129 := hkr.1
    have hMν := hM.fr hF (by decide)
    have m129 := hMν.2.1
    have hpw := pw_small hkr.1
    have f53 : ν 53 = μ 53 := hF.fn 53 rfl
    refine s_iload_2 (pc := 23) dX9_tells_23 ?_
    refine s_iconst_1 (pc := 24) dX9_tells_24 ?_
    refine s_aload_0 (pc := 25) dX9_tells_25 ?_
    refine gfX9_171 (pc := 26) dX9_tells_26 rfl ?_
    refine s_ishl (pc := 29) dX9_tells_29 ?_
    rw [m129, shl1 (by omega)]
    refine s_icmp_ge (pc := 30) 152 dX9_tells_30 rfl (by omega) (by omega) (fun h30 => ?_) (fun h30 => ?_)
    · have hbe : b = (2 : Int) ^ (κ 129 0).toNat := by omega
      have hbn : b.toNat = pP κ := by rw [hbe, ← pw_nat]; rfl
      refine s_iconst_0 (pc := 152) dX9_tells_152 ?_
      refine s_istore_2 (pc := 153) dX9_tells_153 (Nat.le_of_ble_eq_true rfl) rfl ?_
      refine (lp_X9_tells5 (κ := κ) (i := i) (μ := μ) (g := fun k => stD (κ 126 0) (κ 129 0).toNat (sty κ i) (pas κ i) (μ 53) k) 51 0 ν (by omega) (by omega) (hF.mono (by decide)) (fun k k0 k1 => ?_) (fun k k0 k1 => by omega) (by omega))
      rw [hn k k0 k1, hbn]
      rfl
    · refine s_lconst_1 (pc := 33) dX9_tells_33 ?_
      refine s_lstore_3 (pc := 34) dX9_tells_34 (Nat.le_of_ble_eq_true rfl) rfl ?_
      refine s_iconst_0 (pc := 35) dX9_tells_35 ?_
      refine s_istore_5 (pc := 36) dX9_tells_36 (Nat.le_of_ble_eq_true rfl) rfl ?_
      refine s_le ?_ (lp_X9_tells3 (κ := κ) (i := i) (μ := μ) (b := b) hMν hi (by omega) ?_ 5 0 (by omega) (by omega) (by omega))
      · exact ⟨Or.inr rfl, Or.inr rfl, Or.inr rfl, Or.inr rfl, Or.inl rfl, Or.inr rfl, Or.inl rfl, trivial⟩
      · refine s_iconst_0 (pc := 96) dX9_tells_96 ?_
        refine s_istore_5 (pc := 97) dX9_tells_97 (Nat.le_of_ble_eq_true rfl) rfl ?_
        refine lp_X9_tells4 (g := fun k => ν 54 k) hMν hi (by omega) (by rw [f53]; exact hD) ?_ 51 0 ν (by omega) (by omega) Fr.rf (fun k k0 k1 => by show _ = ν 54 k + 0; omega) (by omega)
        intro ν2 hF2 hn2
        refine s_iinc_2 (pc := 146) dX9_tells_146 (Nat.le_of_ble_eq_true rfl) rfl ?_
        refine s_goto (pc := 149) 23 dX9_tells_149 rfl ?_
        refine ih (b + 1) ν2 (by omega) (by omega) (hF.tr hF2) (fun k k0 k1 => ?_) (by omega)
        rw [hn2 k k0 k1, hn k k0 k1, stD_up h0, f53]
theorem lp_X9_tells1 {κ : Mem} {i : Int} {μ : Mem} (hM : MR κ μ) (hi : 0 ≤ i ∧ i < 4) (hD : ∀ k : Int, 0 ≤ k → k < 50 → 0 ≤ μ 53 k ∧ μ 53 k < 4611686018427387904) : ∀ (f : Nat) (j : Int) (ν : Mem), (0 ≤ j) → (j ≤ 50) → (Fr [54] μ ν) → (∀ k : Int, 0 ≤ k → k < j → ν 54 k = 0) → 50 - j < (f : Int) → AW kX9_tells 2 [some (.inr (.inr 9)), some (.inl i), some (.inl j), none, none, none, none] [] ν (pV (fun ν => Fr [53, 54] μ ν ∧ ∀ k : Int, 0 ≤ k → k < 50 → ν 53 k = stD (κ 126 0) (κ 129 0).toNat (sty κ i) (pas κ i) (μ 53) k)) := by
  intro f
  induction f with
  | zero =>
    intro j ν h0 h1 hF hn hm
    exfalso; omega
  | succ f ih =>
    intro j ν h0 h1 hF hn hm
    refine s_iload_2 (pc := 2) dX9_tells_2 ?_
    refine s_bipush (pc := 3) (z := 50) dX9_tells_3 rfl ?_
    refine s_icmp_ge (pc := 5) 21 dX9_tells_5 rfl (by omega) (by omega) (fun h5 => ?_) (fun h5 => ?_)
    · refine s_iconst_0 (pc := 21) dX9_tells_21 ?_
      refine s_istore_2 (pc := 22) dX9_tells_22 (Nat.le_of_ble_eq_true rfl) rfl ?_
      refine lp_X9_tells2 hM hi hD 17 0 ν (by omega) (by have := pw_small hM.1.1; omega) hF (fun k k0 k1 => ?_) (by have := pw_small hM.1.1; omega)
      rw [hn k k0 (by omega)]
      exact stD_0.symm
    · refine s_aload_0 (pc := 8) dX9_tells_8 ?_
      refine gfX9_56 (pc := 9) dX9_tells_9 rfl ?_
      refine s_iload_2 (pc := 12) dX9_tells_12 ?_
      refine s_lconst_0 (pc := 13) dX9_tells_13 ?_
      refine z_lastore (pc := 14) dX9_tells_14 ly_54 ip_54 (by omega) (by omega) ?_
      refine s_iinc_2 (pc := 15) dX9_tells_15 (Nat.le_of_ble_eq_true rfl) rfl ?_
      refine s_goto (pc := 18) 2 dX9_tells_18 rfl ?_
      refine ih (j + 1) _ (by omega) (by omega) (hF.wr (by decide)) (fun k k0 k1 => ?_) (by omega)
      simp (decide := true) only [wr_s, wr_n, wa_s, wa_n, mg_i, mg_o, if_true, eq_self, reduceIte]
      by_cases hk : k = j
      · rw [if_pos hk]
      · rw [if_neg hk]; exact hn k k0 (by omega)
theorem c_X9_tells {κ : Mem} {i : Int} {μ : Mem} (hM : MR κ μ) (hi : 0 ≤ i ∧ i < 4) (hD : ∀ k : Int, 0 ≤ k → k < 50 → 0 ≤ μ 53 k ∧ μ 53 k < 4611686018427387904) : Mc kX9_tells [.inr (.inr 9), .inl i] μ (pV (fun ν => Fr [53, 54] μ ν ∧ ∀ k : Int, 0 ≤ k → k < 50 → ν 53 k = stD (κ 126 0) (κ 129 0).toNat (sty κ i) (pas κ i) (μ 53) k)) := by
  refine Mc_of (by decide +kernel) (fun _ => Nat.le_of_ble_eq_true rfl) ?_
  show AW kX9_tells 0 [some (.inr (.inr 9)), some (.inl i), none, none, none, none, none] [] μ _
  refine s_iconst_0 (pc := 0) dX9_tells_0 ?_
  refine s_istore_2 (pc := 1) dX9_tells_1 (Nat.le_of_ble_eq_true rfl) rfl ?_
  exact lp_X9_tells1 hM hi hD 51 0 μ (by omega) (by omega) Fr.rf (fun k k0 k1 => by omega) (by omega)
