/-! ===== the class's shares ===== -/
theorem on_mod {b p : Int} (hb : 0 ≤ b ∧ b < 16) (hp : 0 ≤ p ∧ p < 4) : on (b % (2 : Int) ^ (p + 1).toNat) = on (b % (2 : Int) ^ p.toNat) + bt b p := by
  refine four (P := fun p => on (b % (2 : Int) ^ (p + 1).toNat) = on (b % (2 : Int) ^ p.toNat) + bt b p) hp ?_ ?_ ?_ ?_ <;> refine bits16 (P := fun b => on (b % (2 : Int) ^ _) = on (b % (2 : Int) ^ _) + bt b _) hb ?_ ?_ ?_ ?_ ?_ ?_ ?_ ?_ ?_ ?_ ?_ ?_ ?_ ?_ ?_ ?_ <;> decide +kernel
theorem on_rest {b p j : Int} (hb : 0 ≤ b ∧ b < 16) (hp : 0 ≤ p ∧ p < 4) (hj : 0 ≤ j ∧ j < 4) : p ≤ j → on b ≤ on (b % (2 : Int) ^ p.toNat) → bt b j = 0 := by
  refine four (P := fun p => p ≤ j → on b ≤ on (b % (2 : Int) ^ p.toNat) → bt b j = 0) hp ?_ ?_ ?_ ?_ <;> refine four (P := fun j => _ ≤ j → on b ≤ on (b % (2 : Int) ^ _) → bt b j = 0) hj ?_ ?_ ?_ ?_ <;> refine bits16 (P := fun b => _ ≤ _ → on b ≤ on (b % (2 : Int) ^ _) → bt b _ = 0) hb ?_ ?_ ?_ ?_ ?_ ?_ ?_ ?_ ?_ ?_ ?_ ?_ ?_ ?_ ?_ ?_ <;> decide +kernel
theorem mod_keep {b p j : Int} (hb : 0 ≤ b ∧ b < 16) (hp : 0 ≤ p ∧ p < 4) (hj : 0 ≤ j ∧ j < 4) : p ≤ j → b % (2 : Int) ^ p.toNat ≠ 0 → b % (2 : Int) ^ j.toNat ≠ 0 := by
  refine four (P := fun p => p ≤ j → b % (2 : Int) ^ p.toNat ≠ 0 → b % (2 : Int) ^ j.toNat ≠ 0) hp ?_ ?_ ?_ ?_ <;> refine four (P := fun j => _ ≤ j → b % (2 : Int) ^ _ ≠ 0 → b % (2 : Int) ^ j.toNat ≠ 0) hj ?_ ?_ ?_ ?_ <;> refine bits16 (P := fun b => _ ≤ _ → b % (2 : Int) ^ _ ≠ 0 → b % (2 : Int) ^ _ ≠ 0) hb ?_ ?_ ?_ ?_ ?_ ?_ ?_ ?_ ?_ ?_ ?_ ?_ ?_ ?_ ?_ ?_ <;> decide +kernel
abbrev undec (sev b : Int) : Prop := on b = 0 ∨ (1 < on b ∧ sev = 0)
def poA (μ : Mem) (a b w sev P : Int) (j : Int) : Int := μ 22 j + (if j = a + 4 then w * stp sev b else if a ≤ j ∧ j < a + P then w * shp sev b (j - a) else 0)
def shr' (sev b : Int) : Int := if sev = 1 then 1 else on b
def gone (sev b p : Int) : Int := if sev = 2 then on (b % (2 : Int) ^ p.toNat) else if b % (2 : Int) ^ p.toNat = 0 then 0 else 1
theorem lp_X0_passOn {κ : Mem} {a b w : Int} {μ : Mem} (hC : CR κ μ) (ha : 0 ≤ a ∧ a ≤ 55) (hb : 0 ≤ b ∧ b < 16) (hd : ¬ undec (κ 127 0) b) : ∀ (f : Nat) (p : Int) (ν : Mem), (0 ≤ p) → (p ≤ κ 129 0) → (Fr [22] μ ν) → (∀ j, ν 22 j = poA μ a b w (κ 127 0) p j) → κ 129 0 - p < (f : Int) → AW kX0_passOn 70 [some (.inr (.inr 3)), some (.inl a), some (.inl b), some (.inr (.inl w)), none, some (.inl (on b)), some (.inl (shr' (κ 127 0) b)), some (.inl (shr' (κ 127 0) b - gone (κ 127 0) b p)), some (.inl p)] [] ν (pV (fun ν => Fr [22] μ ν ∧ ∀ j, ν 22 j = poA μ a b w (κ 127 0) (κ 129 0) j)) := by
  intro f
  induction f with
  | zero =>
    intro p ν h0 h1 hF hv hm
    exfalso; omega
  | succ f ih =>
    intro p ν h0 h1 hF hv hm
    have hCν := hC.fr hF (by decide)
    have r129 := hC.1.1
    have r127 := hC.1.2.2.2.1
    have c105 := hCν.2.1
    have hon := on_in (b := b)
    have hd1 : on b ≠ 0 := fun q => hd (Or.inl q)
    have hd2 : ¬ (1 < on b ∧ κ 127 0 = 0) := fun q => hd (Or.inr q)
    have hst : stp (κ 127 0) b = 0 := if_neg hd
    have hsd : ∀ j, shp (κ 127 0) b j = if bt b j = 1 ∧ (κ 127 0 = 2 ∨ b % (2 : Int) ^ j.toNat = 0) then (if κ 127 0 = 2 then 12 / on b else 12) else 0 := fun j => if_neg hd
    have hsh : shr' (κ 127 0) b = if κ 127 0 = 1 then 1 else on b := rfl
    have hgo : gone (κ 127 0) b p = if κ 127 0 = 2 then on (b % (2 : Int) ^ p.toNat) else if b % (2 : Int) ^ p.toNat = 0 then 0 else 1 := rfl
    have hom := on_in (b := b % (2 : Int) ^ p.toNat)
    have hgi : 0 ≤ gone (κ 127 0) b p ∧ gone (κ 127 0) b p ≤ 4 := by rw [hgo]; split <;> (try split) <;> omega
    have hsi : 1 ≤ shr' (κ 127 0) b ∧ shr' (κ 127 0) b ≤ 4 := by rw [hsh]; split <;> omega
    have hbt := bt_in (b := b) (k := p)
    have hnx : p < 4 → gone (κ 127 0) b (p + 1) = (if κ 127 0 = 2 then gone (κ 127 0) b p + bt b p else if gone (κ 127 0) b p = 0 then bt b p else 1) := fun p4 => by
      have hm := on_mod hb (p := p) ⟨h0, p4⟩
      have hz := bmod_succ (b := b) (p := p) ⟨h0, p4⟩
      have hnn := bmod_nn (b := b) (p := p)
      have hpp := pw8 (p := p) ⟨h0, p4⟩
      unfold gone
      split
      · exact hm
      · rcases hbt with q | q
        · rw [q, Int.mul_zero, Int.add_zero] at hz
          rw [hz, q]
          split <;> simp
        · rw [q, Int.mul_one] at hz
          rw [if_neg (by omega), q]
          split <;> simp
    refine s_iload_8 (pc := 70) dX0_passOn_70 ?_
    refine s_aload_0 (pc := 72) dX0_passOn_72 ?_
    refine gfX0_27 (pc := 73) dX0_passOn_73 rfl ?_
    refine gfX0_91 (pc := 76) dX0_passOn_76 rfl ?_
    try simp (decide := true) only [wr_s, wr_n, wa_s, wa_n, mg_i, mg_o, if_true, eq_self, reduceIte]
    try rw [c105]
    refine s_icmp_ge (pc := 79) 125 dX0_passOn_79 rfl (by omega) (by omega) (fun h79 => ?_) (fun h79 => ?_)
    · cases (show p = κ 129 0 by omega)
      have hend : ∀ j, poA μ a b w (κ 127 0) (κ 129 0) j = poA μ a b w (κ 127 0) (κ 129 0) j := fun _ => rfl
      refine s_return (pc := 125) dX0_passOn_125 rfl ?_
      exact ⟨hF, fun j => by rw [hend]; exact hv j⟩
    · refine s_iload_7 (pc := 82) dX0_passOn_82 ?_
      refine s_if_le (pc := 84) 125 dX0_passOn_84 rfl (by omega) (fun h84 => ?_) (fun h84 => ?_)
      · have hend : ∀ j, poA μ a b w (κ 127 0) (κ 129 0) j = poA μ a b w (κ 127 0) p j := fun j => by
          unfold poA
          by_cases hj4 : j = a + 4
          · rw [if_pos hj4, if_pos hj4]
          · rw [if_neg hj4, if_neg hj4]
            by_cases hr : a ≤ j ∧ j < a + p
            · rw [if_pos hr, if_pos (by omega)]
            · rw [if_neg hr]
              by_cases hr2 : a ≤ j ∧ j < a + κ 129 0
              · rw [if_pos hr2, hsd, if_neg ?_, Int.mul_zero]
                rintro ⟨q1, q2⟩
                by_cases s2 : κ 127 0 = 2
                · rw [if_pos s2] at hgo
                  rw [if_neg (by omega)] at hsh
                  have := on_rest hb (p := p) (j := j - a) (by omega) (by omega) (by omega) (by omega)
                  omega
                · have hs : shr' (κ 127 0) b = 1 := by rw [hsh]; split <;> omega
                  have hnz : b % (2 : Int) ^ p.toNat ≠ 0 := fun q => by rw [if_neg s2, if_pos q] at hgo; omega
                  have := mod_keep hb (p := p) (j := j - a) (by omega) (by omega) (by omega) hnz
                  omega
              · rw [if_neg hr2]
        refine s_return (pc := 125) dX0_passOn_125 rfl ?_
        exact ⟨hF, fun j => by rw [hend]; exact hv j⟩
      · have hs1 : κ 127 0 ≠ 2 → shr' (κ 127 0) b = 1 := fun q => by rw [hsh]; split <;> omega
        have hdv : 0 ≤ 12 / shr' (κ 127 0) b ∧ 12 / shr' (κ 127 0) b ≤ 12 := by
          rcases (show shr' (κ 127 0) b = 1 ∨ shr' (κ 127 0) b = 2 ∨ shr' (κ 127 0) b = 3 ∨ shr' (κ 127 0) b = 4 by omega) with e | e | e | e <;> rw [e] <;> decide
        refine s_iload_2 (pc := 87) dX0_passOn_87 ?_
        refine s_iload_8 (pc := 88) dX0_passOn_88 ?_
        refine cN2i (pc := 90) (Ky := kX8_hasBit) dX0_passOn_90 rfl nsX0_84 okX8_hasBit ⟨Nat.le_of_ble_eq_true rfl, Nat.le_of_ble_eq_true rfl⟩ (Nat.le_of_ble_eq_true rfl) (c_X8_hasBit (by omega) (by omega)) ?_
        rintro _ _ ⟨rfl, rfl⟩
        refine s_if_eq (pc := 93) 119 dX0_passOn_93 rfl (by omega) (fun h93 => ?_) (fun h93 => ?_)
        · have hkeep : ∀ j, poA μ a b w (κ 127 0) (p + 1) j = poA μ a b w (κ 127 0) p j := fun j => by
            unfold poA
            by_cases hj : j = a + p
            · rw [if_neg (by omega), if_pos (by omega), if_neg (by omega), if_neg (by omega), hsd, if_neg (fun q => by have := q.1; rw [show j - a = p by omega] at this; omega), Int.mul_zero]
            · by_cases hj4 : j = a + 4
              · rw [if_pos hj4, if_pos hj4]
              · rw [if_neg hj4, if_neg hj4]
                by_cases hr : a ≤ j ∧ j < a + p
                · rw [if_pos hr, if_pos (by omega)]
                · rw [if_neg hr, if_neg (by omega)]
          refine s_iinc_8 (pc := 119) dX0_passOn_119 (Nat.le_of_ble_eq_true rfl) rfl ?_
          refine s_goto (pc := 122) 70 dX0_passOn_122 rfl ?_
          first
            | (have hgn : gone (κ 127 0) b (p + 1) = gone (κ 127 0) b p := by
                 rw [hnx (by omega)]
                 by_cases s2 : κ 127 0 = 2
                 · rw [if_pos s2]; omega
                 · rw [if_neg s2]
                   have hs := hs1 s2
                   split <;> omega
               refine s_le ?_ (ih (p + 1) _ (by omega) (by omega) hF (fun j => by rw [hkeep]; exact hv j) (by omega))
               rw [hgn]
               exact ⟨Or.inr rfl, Or.inr rfl, Or.inr rfl, Or.inr rfl, Or.inl rfl, Or.inr rfl, Or.inr rfl, Or.inr rfl, Or.inr rfl, trivial⟩
               done)
            | (refine s_le ?_ (ih (p + 1) _ (by omega) (by omega) (hF.wr (by decide)) (fun j => ?_) (by omega))
               · rw [hgn, show shr' (κ 127 0) b - (gone (κ 127 0) b p + 1) = shr' (κ 127 0) b - gone (κ 127 0) b p + -1 by omega]
                 exact ⟨Or.inr rfl, Or.inr rfl, Or.inr rfl, Or.inr rfl, Or.inl rfl, Or.inr rfl, Or.inr rfl, Or.inr rfl, Or.inr rfl, trivial⟩
               · rw [hadd, wr_s]
                 by_cases hj : j = a + p
                 · rw [if_pos hj, if_pos hj, hv]
                 · rw [if_neg hj, if_neg hj]; exact hv j)
        · have hval : shp (κ 127 0) b p = 12 / shr' (κ 127 0) b := by
            by_cases s2 : κ 127 0 = 2
            · rw [hsd, if_pos ⟨by omega, Or.inl s2⟩, if_pos s2, hsh, if_neg (by omega)]
            · have hs := hs1 s2
              have hz : b % (2 : Int) ^ p.toNat = 0 := by
                rw [if_neg s2] at hgo
                by_cases q : b % (2 : Int) ^ p.toNat = 0
                · exact q
                · rw [if_neg q] at hgo; omega
              rw [hsd, if_pos ⟨by omega, Or.inr hz⟩, if_neg s2, hs]; rfl
          have hgn : gone (κ 127 0) b (p + 1) = gone (κ 127 0) b p + 1 := by
            rw [hnx (by omega)]
            by_cases s2 : κ 127 0 = 2
            · rw [if_pos s2]; omega
            · have hs := hs1 s2
              rw [if_neg s2, if_pos (by omega)]; omega
          have hadd : ∀ j, poA μ a b w (κ 127 0) (p + 1) j = if j = a + p then poA μ a b w (κ 127 0) p (a + p) + 12 / shr' (κ 127 0) b * w else poA μ a b w (κ 127 0) p j := fun j => by
            unfold poA
            by_cases hj : j = a + p
            · rw [if_pos hj, if_neg (by omega), if_pos (by omega), if_neg (by omega), if_neg (by omega), hj, show a + p - a = p by omega, hval, Int.add_zero, Int.mul_comm]
            · rw [if_neg hj]
              by_cases hj4 : j = a + 4
              · rw [if_pos hj4, if_pos hj4]
              · rw [if_neg hj4, if_neg hj4]
                by_cases hr : a ≤ j ∧ j < a + p
                · rw [if_pos hr, if_pos (by omega)]
                · rw [if_neg hr, if_neg (by omega)]
          refine s_aload_0 (pc := 96) dX0_passOn_96 ?_
          refine gfX0_15 (pc := 97) dX0_passOn_97 rfl ?_
          refine s_iload_1 (pc := 100) dX0_passOn_100 ?_
          refine s_iload_8 (pc := 101) dX0_passOn_101 ?_
          refine s_iadd (pc := 103) dX0_passOn_103 ?_
          refine s_dup2 (pc := 104) dX0_passOn_104 rfl rfl ?_
          refine z_laload (pc := 105) dX0_passOn_105 ly_22 (by omega) (by omega) ?_
          try simp (decide := true) only [wr_s, wr_n, wa_s, wa_n, mg_i, mg_o, if_true, eq_self, reduceIte]
          try rw [c105]
          refine s_bipush (pc := 106) (z := 12) dX0_passOn_106 rfl ?_
          refine s_iload_6 (pc := 108) dX0_passOn_108 ?_
          refine s_idiv (pc := 110) dX0_passOn_110 (by omega) (by omega) ?_
          rw [Int.tdiv_eq_ediv_of_nonneg (by omega)]
          refine s_i2l (pc := 111) dX0_passOn_111 (by omega) ?_
          refine s_lload_3 (pc := 112) dX0_passOn_112 ?_
          refine s_lmul (pc := 113) dX0_passOn_113 ?_
          refine s_ladd (pc := 114) dX0_passOn_114 ?_
          refine z_lastore (pc := 115) dX0_passOn_115 ly_22 ip_22 (by omega) (by omega) ?_
          refine s_iinc_7 (pc := 116) dX0_passOn_116 (Nat.le_of_ble_eq_true rfl) rfl ?_
          refine s_iinc_8 (pc := 119) dX0_passOn_119 (Nat.le_of_ble_eq_true rfl) rfl ?_
          refine s_goto (pc := 122) 70 dX0_passOn_122 rfl ?_
          first
            | (have hgn : gone (κ 127 0) b (p + 1) = gone (κ 127 0) b p := by
                 rw [hnx (by omega)]
                 by_cases s2 : κ 127 0 = 2
                 · rw [if_pos s2]; omega
                 · rw [if_neg s2]
                   have hs := hs1 s2
                   split <;> omega
               refine s_le ?_ (ih (p + 1) _ (by omega) (by omega) hF (fun j => by rw [hkeep]; exact hv j) (by omega))
               rw [hgn]
               exact ⟨Or.inr rfl, Or.inr rfl, Or.inr rfl, Or.inr rfl, Or.inl rfl, Or.inr rfl, Or.inr rfl, Or.inr rfl, Or.inr rfl, trivial⟩
               done)
            | (refine s_le ?_ (ih (p + 1) _ (by omega) (by omega) (hF.wr (by decide)) (fun j => ?_) (by omega))
               · rw [hgn, show shr' (κ 127 0) b - (gone (κ 127 0) b p + 1) = shr' (κ 127 0) b - gone (κ 127 0) b p + -1 by omega]
                 exact ⟨Or.inr rfl, Or.inr rfl, Or.inr rfl, Or.inr rfl, Or.inl rfl, Or.inr rfl, Or.inr rfl, Or.inr rfl, Or.inr rfl, trivial⟩
               · rw [hadd, wr_s]
                 by_cases hj : j = a + p
                 · rw [if_pos hj, if_pos hj, hv]
                 · rw [if_neg hj, if_neg hj]; exact hv j)
