/-! ===== the class's searches ===== -/
theorem am_congr {κ κ' : Mem} {p : Int} (h125 : κ' 125 0 = κ 125 0) (h126 : κ' 126 0 = κ 126 0) (h127 : κ' 127 0 = κ 127 0) (h128 : κ' 128 0 = κ 128 0) (h129 : κ' 129 0 = κ 129 0) (h : ∀ i : Int, 0 ≤ i → i < κ 125 0 → ∀ q : Int, 0 ≤ q → q < κ 129 0 → kq κ' q i = kq κ q i) : am κ' p = am κ p := by
  have hs : ∀ i : Nat, (i : Int) < κ 125 0 → sty κ' i = sty κ i ∧ ∀ p, pas κ' i p = pas κ i p := fun i hi => sp_congr h129 h127 (h i (by omega) hi)
  have hO : ∀ i : Nat, (i : Int) ≤ κ 125 0 → ∀ p, OW κ' i p = OW κ i p := fun i => by
    induction i with
    | zero => intro _ p; unfold OW; rw [h128]
    | succ i ih =>
      intro hi p
      have h1 := hs i (by omega)
      unfold OW
      rw [h126, h128, ih (by omega) p, h1.1, h1.2]
  have hA : ∀ i : Nat, (i : Int) ≤ κ 125 0 → ∀ p, AH κ' i p = AH κ i p := fun i => by
    induction i with
    | zero => intro _ p; unfold AH; rw [h128]
    | succ i ih =>
      intro hi p
      have h1 := hs i (by omega)
      have h2 : sm (AH κ' i) (κ 129 0).toNat = sm (AH κ i) (κ 129 0).toNat := sm_congr fun k _ _ => ih (by omega) k
      unfold AH
      rw [h129, ih (by omega) p, h1.1, h1.2, h2]
  unfold am ow
  rw [h126, h125]
  by_cases h0 : 0 ≤ κ 125 0
  · rw [hA _ (by omega), hO _ (by omega)]
  · rw [show (κ 125 0).toNat = 0 by omega]
    unfold AH OW
    rw [h128]
theorem cw_low {κ : Mem} {p L a b : Int} (h : ∀ i : Int, 0 ≤ i → i < κ 125 0 → i < L → bt a i = bt b i) : cw κ p L a = cw κ p L b := by
  have ho : ∀ x : Int, ∀ c : Nat, c ≠ 49 → c ≠ 50 → way κ p L x c = κ c := fun x c h1 h2 => way_o h1 h2
  have ha : am (way κ p L a) p = am (way κ p L b) p := by
    refine am_congr ?_ ?_ ?_ ?_ ?_ ?_
    · rw [ho a 125 (by decide) (by decide), ho b 125 (by decide) (by decide)]
    · rw [ho a 126 (by decide) (by decide), ho b 126 (by decide) (by decide)]
    · rw [ho a 127 (by decide) (by decide), ho b 127 (by decide) (by decide)]
    · rw [ho a 128 (by decide) (by decide), ho b 128 (by decide) (by decide)]
    · rw [ho a 129 (by decide) (by decide), ho b 129 (by decide) (by decide)]
    · intro i i0 i1 q _ _
      rw [ho b 125 (by decide) (by decide)] at i1
      rw [way_kq, way_kq]
      by_cases hq : q = p
      · simp only [hq, if_true, eq_self]
        by_cases hL : i < L
        · rw [h i i0 i1 hL]
        · rw [if_neg (fun q => hL q.1), if_neg (fun q => hL q.1)]
      · simp only [if_neg hq]
  have hf : fees (way κ p L a) p = fees (way κ p L b) p := by
    unfold fees
    rw [ho a 125 (by decide) (by decide), ho b 125 (by decide) (by decide), ho a 44 (by decide) (by decide), ho b 44 (by decide) (by decide), way_50e, way_50e, if_pos rfl]
    congr 1
    refine sm_congr fun i i0 i1 => ?_
    rw [way_49e, way_49e, if_pos rfl, if_pos rfl]
    by_cases hL : i < L
    · rw [h i i0 (by omega) hL]
    · rw [if_neg (fun q => hL q.2), if_neg (fun q => hL q.2)]
  unfold cw cst
  rw [ha, hf, ho a 125 (by decide) (by decide), ho b 125 (by decide) (by decide), ho a 44 (by decide) (by decide), ho b 44 (by decide) (by decide)]
theorem bstB_le {κ : Mem} (h : KO κ) {p L : Int} (hL : 0 ≤ L ∧ L ≤ 4) (p0 : 0 ≤ p) (p1 : p < κ 129 0) (p2 : p < κ 124 0) {s : BS} : ∀ n : Nat, n ≤ 16 → ∀ r : Nat, r < n → 0 ≤ (bstB κ p L s n).1 ∧ (bstB κ p L s n).1 ≤ cw κ p L r
  | 0, _, r, hr => by omega
  | n + 1, hn, r, hr => by
    have ih := bstB_le h hL p0 p1 p2 (s := s) n (by omega)
    have hc := cw_in h hL (b := n) (by omega) p0 p1 p2
    unfold bstB
    by_cases hcc : (bstB κ p L s n).1 < 0 ∨ cw κ p L n < (bstB κ p L s n).1
    · rw [if_pos hcc]
      refine ⟨hc.1, ?_⟩
      by_cases hrn : r = n
      · rw [hrn]; exact Int.le_refl _
      · have := ih r (by omega)
        dsimp only
        omega
    · rw [if_neg hcc]
      by_cases hrn : r = n
      · rw [hrn]; omega
      · exact ih r (by omega)
theorem bt_mod {b k i : Int} (hb : 0 ≤ b ∧ b < 16) (hk : 0 ≤ k ∧ k ≤ 4) (hi : 0 ≤ i ∧ i < k) : bt (b % (2 : Int) ^ k.toNat) i = bt b i := by
  have key : ∀ k < 5, ∀ i < k, ∀ b < 16, bt (((b : Nat) : Int) % (2 : Int) ^ k) ((i : Nat) : Int) = bt b i := by decide +kernel
  have := key k.toNat (by omega) i.toNat (by omega) b.toNat (by omega)
  rw [show ((b.toNat : Nat) : Int) = b by omega, show ((i.toNat : Nat) : Int) = i by omega] at this
  exact this
theorem bstB_cut {κ : Mem} (h : KO κ) {p L m : Int} (hL : 0 ≤ L ∧ L ≤ 4) (p0 : 0 ≤ p) (p1 : p < κ 129 0) (p2 : p < κ 124 0) {s : BS} (hm : m = min L (κ 125 0)) : bstB κ p L s (2 ^ (κ 125 0).toNat) = bstB κ p L s (2 ^ m.toNat) := by
  have r125 := h.1.2.1
  have hT := pow16 h.1
  have hmm : 1 ≤ 2 ^ m.toNat ∧ 2 ^ m.toNat ≤ 2 ^ (κ 125 0).toNat := ⟨Nat.one_le_two_pow, Nat.pow_le_pow_right (by decide) (by omega)⟩
  have key : ∀ d : Nat, 2 ^ m.toNat + d ≤ 2 ^ (κ 125 0).toNat → bstB κ p L s (2 ^ m.toNat + d) = bstB κ p L s (2 ^ m.toNat) := fun d => by
    induction d with
    | zero => intro _; rfl
    | succ d ih =>
      intro hd
      rw [← ih (by omega)]
      rw [show 2 ^ m.toNat + (d + 1) = (2 ^ m.toNat + d) + 1 by omega]
      generalize hn : 2 ^ m.toNat + d = n at *
      have hpn := pw_nat (k := m)
      have hr0 : (0 : Int) ≤ (n : Int) % 2 ^ m.toNat := bmod_nn
      have hr1 : (n : Int) % 2 ^ m.toNat < 2 ^ m.toNat := Int.emod_lt_of_pos _ pow_pos
      have hlow := cw_low (κ := κ) (p := p) (L := L) (a := n) (b := (((n : Int) % 2 ^ m.toNat).toNat : Nat)) (fun i i0 i1 i2 => by
        rw [show ((((n : Int) % 2 ^ m.toNat).toNat : Nat) : Int) = (n : Int) % 2 ^ m.toNat by omega]
        exact (bt_mod (by omega) (by omega) (by omega)).symm)
      have hle := bstB_le h hL p0 p1 p2 (s := s) n (by omega) ((n : Int) % 2 ^ m.toNat).toNat (by omega)
      show (if (bstB κ p L s n).1 < 0 ∨ cw κ p L n < (bstB κ p L s n).1 then (cw κ p L n, (n : Int), L) else bstB κ p L s n) = bstB κ p L s n
      rw [if_neg (by omega)]
  have := key (2 ^ (κ 125 0).toNat - 2 ^ m.toNat) (by omega)
  rw [show 2 ^ m.toNat + (2 ^ (κ 125 0).toNat - 2 ^ m.toNat) = 2 ^ (κ 125 0).toNat by omega] at this
  exact this
/-- the class's notes of the best so far -/
def RC (κ ν : Mem) (s : BS) : Prop := (s.1 < 0 ∧ ν 112 0 = 9223372036854775807) ∨ (0 ≤ s.1 ∧ s.1 ≤ 54 * 6144 ^ (κ 125 0).toNat ∧ ν 112 0 = s.1 ∧ ν 113 0 = s.2.1 ∧ ν 114 0 = s.2.2)
theorem RC_g {κ ν : Mem} {s : BS} (hg : gB κ s) (h : RC κ ν s) : ν 112 0 = s.1 ∧ ν 113 0 = s.2.1 ∧ ν 114 0 = s.2.2 := by
  rcases h with ⟨q1, _⟩ | ⟨_, _, q3, q4, q5⟩
  · have := hg.1; omega
  · exact ⟨q3, q4, q5⟩
theorem RC.fr {κ μ ν : Mem} {s : BS} {F : List Nat} (hB : RC κ μ s) (hF : Fr F μ ν) (h : F.all (fun c => decide (c ∉ [112, 113, 114])) = true) : RC κ ν s := by
  have hc : ∀ c : Nat, c ∈ [112, 113, 114] → ν c = μ c := fun c h1 => by
    refine hF c (fun q => ?_)
    have := List.all_eq_true.mp h c q
    simp only [decide_eq_true_eq] at this
    exact this h1
  unfold RC
  rw [hc 112 (by decide), hc 113 (by decide), hc 114 (by decide)]
  exact hB
theorem lp_X4_ch {κ : Mem} {p Lv m : Int} {s : BS} {μ : Mem} (hko : KO κ) (hp : 0 ≤ p ∧ p < κ 129 0) (hp2 : p < κ 124 0) (haw : κ 130 0 = 0) (hL : 0 ≤ Lv ∧ Lv ≤ 4) (hmn : m = min Lv (κ 125 0)) (hW : WA κ p μ) : ∀ (f : Nat) (b c : Int) (ν : Mem), (0 ≤ b) → (b ≤ (2 : Int) ^ m.toNat) → (Fr [19, 23, 24, 25, 111, 112, 113, 114] μ ν) → (CR (way κ p Lv c) ν) → (RC κ ν (bstB κ p Lv s b.toNat)) → (2 : Int) ^ m.toNat - b < (f : Int) → AW kX4_compareHolds 25 [some (.inr (.inr 4)), some (.inl p), some (.inl Lv), some (.inl m), some (.inl b), none, none] [] ν (pV (fun ν => (∃ b, CR (way κ p Lv b) ν) ∧ RC κ ν (bstB κ p Lv s (2 ^ (κ 125 0).toNat)) ∧ Fr [19, 23, 24, 25, 111, 112, 113, 114] μ ν)) := by
  intro f
  induction f with
  | zero =>
    intro b c ν h0 h1 hF hC hB hm
    exfalso; omega
  | succ f ih =>
    intro b c ν h0 h1 hF hC hB hm
    have hk1 := hko.1
    have r129 := hk1.1
    have r125 := hk1.2.1
    have hpw := pw_small (k := m) (by omega)
    have h6 := p6144 hk1
    refine s_iload_4 (pc := 25) dX4_compareHolds_25 ?_
    refine s_iconst_1 (pc := 27) dX4_compareHolds_27 ?_
    refine s_iload_3 (pc := 28) dX4_compareHolds_28 ?_
    refine s_ishl (pc := 29) dX4_compareHolds_29 ?_
    rw [shl1 (by omega)]
    refine s_icmp_ge (pc := 30) 95 dX4_compareHolds_30 rfl (by omega) (by omega) (fun h30 => ?_) (fun h30 => ?_)
    · refine s_return (pc := 95) dX4_compareHolds_95 rfl ?_
      have hpn := pw_nat (k := m)
      have hbe : b.toNat = 2 ^ m.toNat := by omega
      rw [hbe, ← bstB_cut hko hL hp.1 hp.2 hp2 hmn] at hB
      exact ⟨⟨c, hC⟩, hB, hF⟩
    · refine s_aload_0 (pc := 33) dX4_compareHolds_33 ?_
      refine gfX4_27 (pc := 34) dX4_compareHolds_34 rfl ?_
      refine gfX4_44 (pc := 37) dX4_compareHolds_37 rfl ?_
      refine s_iload_1 (pc := 40) dX4_compareHolds_40 ?_
      refine s_iload_4 (pc := 41) dX4_compareHolds_41 ?_
      refine z_iastore (pc := 43) dX4_compareHolds_43 ly_19 ip_19 (by omega) (by omega) ?_
      refine s_aload_0 (pc := 44) dX4_compareHolds_44 ?_
      refine gfX4_31 (pc := 45) dX4_compareHolds_45 rfl ?_
      refine s_iload_1 (pc := 48) dX4_compareHolds_48 ?_
      have hCb := way_C (b' := b) hC (by omega)
      have hcw := cw_in hko hL (b := b) (by omega) hp.1 hp.2 hp2
      have hkb := way_KO (p := p) (b := b) hko hL (by omega)
      have hpb : 0 ≤ p ∧ p < way κ p Lv b 129 0 := by rw [way_o (c := 129) (by decide) (by decide)]; exact hp
      have hWb : WP (way κ p Lv b) p (wr ν 19 p b) := (hW.fr (hF.wr (c := 19) (k := p) (z := b) (by decide)) rfl).wp hk1
      refine cV1v (pc := 49) (Ky := kX0_replay) dX4_compareHolds_49 rfl lnX4_75 okX0_replay ⟨0, TX0, 7, rfl, rfl⟩ ⟨Nat.le_of_ble_eq_true rfl, Nat.le_of_ble_eq_true rfl⟩ (Nat.le_of_ble_eq_true rfl) (c_X0_replay hCb hkb hpb hWb) ?_
      rintro ν49 ⟨hP49, hF49⟩
      have hC49 := hCb.fr hF49 (by decide)
      have e112 : ν49 112 0 = ν 112 0 := by rw [hF49.at 112 rfl 0, wr_n (by decide)]
      have e113 : ν49 113 0 = ν 113 0 := by rw [hF49.at 113 rfl 0, wr_n (by decide)]
      have e114 : ν49 114 0 = ν 114 0 := by rw [hF49.at 114 rfl 0, wr_n (by decide)]
      have hFF : Fr [19, 23, 24, 25, 111, 112, 113, 114] μ ν49 := (hF.wr (by decide)).tr (hF49.mono (by decide))
      have hB2 : 0 ≤ ν49 112 0 ∧ ν49 112 0 ≤ 9223372036854775807 := by
        rcases hB with ⟨q1, q2⟩ | ⟨q1, q2, q3, q4⟩ <;> omega
      refine s_aload_0 (pc := 52) dX4_compareHolds_52 ?_
      refine gfX4_31 (pc := 53) dX4_compareHolds_53 rfl ?_
      refine s_iload_1 (pc := 56) dX4_compareHolds_56 ?_
      refine cV1l (pc := 57) (Ky := kX0_costOf) dX4_compareHolds_57 rfl lnX4_78 okX0_costOf ⟨0, TX0, 7, rfl, rfl⟩ ⟨Nat.le_of_ble_eq_true rfl, Nat.le_of_ble_eq_true rfl⟩ (Nat.le_of_ble_eq_true rfl) (c_X0_costOf hC49 hpb (by rw [way_o (c := 124) (by decide) (by decide)]; exact hp2) (by rw [way_o (c := 130) (by decide) (by decide)]; exact haw) hP49) ?_
      rintro _ _ ⟨rfl, rfl⟩
      show AW kX4_compareHolds _ _ (.inr (.inl (cw κ p Lv b)) :: _) _ _
      refine s_lstore_5 (pc := 60) dX4_compareHolds_60 (Nat.le_of_ble_eq_true rfl) rfl ?_
      refine s_lload_5 (pc := 62) dX4_compareHolds_62 ?_
      refine s_aload_0 (pc := 64) dX4_compareHolds_64 ?_
      refine gfX4_57 (pc := 65) dX4_compareHolds_65 rfl ?_
      refine s_lif_ge (pc := 68) 89 dX4_compareHolds_68 dX4_compareHolds_69 rfl (by omega) (by omega) (fun h69 => ?_) (fun h69 => ?_)
      · have hup : ¬ ((bstB κ p Lv s b.toNat).1 < 0 ∨ cw κ p Lv b < (bstB κ p Lv s b.toNat).1) := by
          rcases hB with ⟨q1, q2⟩ | ⟨q1, q2, q3, q4⟩ <;> omega
        refine s_iinc_4 (pc := 89) dX4_compareHolds_89 (Nat.le_of_ble_eq_true rfl) rfl ?_
        refine s_goto (pc := 92) 25 dX4_compareHolds_92 rfl ?_
        refine s_le ?_ (ih (b + 1) b _ (by omega) (by omega) ?_ ?_ ?_ (by omega))
        · exact ⟨Or.inr rfl, Or.inr rfl, Or.inr rfl, Or.inr rfl, Or.inr rfl, Or.inl rfl, Or.inl rfl, trivial⟩
        · first | exact hFF | exact ((hFF.wr (by decide)).wr (by decide)).wr (by decide)
        · first | exact hC49 | exact hC49.fr (((Fr.rf (F := [112, 113, 114])).wr (by decide)).wr (by decide) |>.wr (by decide)) (by decide)
        · rw [bstB_succ h0]
          first
            | (rw [if_neg hup]
               rcases hB with ⟨q1, q2⟩ | ⟨q1, q2, q3, q4, q5⟩
               · exact Or.inl ⟨q1, by omega⟩
               · exact Or.inr ⟨q1, q2, by omega, by omega, by omega⟩)
            | (rw [if_pos hup]
               refine Or.inr ⟨hcw.1, hcw.2, ?_, ?_, ?_⟩ <;> simp (decide := true) only [wr_s, wr_n, wa_s, wa_n, mg_i, mg_o, if_true, eq_self, reduceIte])
      · have hup : (bstB κ p Lv s b.toNat).1 < 0 ∨ cw κ p Lv b < (bstB κ p Lv s b.toNat).1 := by
          rcases hB with ⟨q1, q2⟩ | ⟨q1, q2, q3, q4⟩
          · exact Or.inl q1
          · exact Or.inr (by omega)
        refine s_aload_0 (pc := 72) dX4_compareHolds_72 ?_
        refine s_lload_5 (pc := 73) dX4_compareHolds_73 ?_
        refine pfX4_57 (pc := 75) dX4_compareHolds_75 rfl ?_
        refine s_aload_0 (pc := 78) dX4_compareHolds_78 ?_
        refine s_iload_4 (pc := 79) dX4_compareHolds_79 ?_
        refine pfX4_82 (pc := 81) dX4_compareHolds_81 rfl ?_
        refine s_aload_0 (pc := 84) dX4_compareHolds_84 ?_
        refine s_iload_2 (pc := 85) dX4_compareHolds_85 ?_
        refine pfX4_85 (pc := 86) dX4_compareHolds_86 rfl ?_
        refine s_iinc_4 (pc := 89) dX4_compareHolds_89 (Nat.le_of_ble_eq_true rfl) rfl ?_
        refine s_goto (pc := 92) 25 dX4_compareHolds_92 rfl ?_
        refine s_le ?_ (ih (b + 1) b _ (by omega) (by omega) ?_ ?_ ?_ (by omega))
        · exact ⟨Or.inr rfl, Or.inr rfl, Or.inr rfl, Or.inr rfl, Or.inr rfl, Or.inl rfl, Or.inl rfl, trivial⟩
        · first | exact hFF | exact ((hFF.wr (by decide)).wr (by decide)).wr (by decide)
        · first | exact hC49 | exact hC49.fr (((Fr.rf (F := [112, 113, 114])).wr (by decide)).wr (by decide) |>.wr (by decide)) (by decide)
        · rw [bstB_succ h0]
          first
            | (rw [if_neg hup]
               rcases hB with ⟨q1, q2⟩ | ⟨q1, q2, q3, q4, q5⟩
               · exact Or.inl ⟨q1, by omega⟩
               · exact Or.inr ⟨q1, q2, by omega, by omega, by omega⟩)
            | (rw [if_pos hup]
               refine Or.inr ⟨hcw.1, hcw.2, ?_, ?_, ?_⟩ <;> simp (decide := true) only [wr_s, wr_n, wa_s, wa_n, mg_i, mg_o, if_true, eq_self, reduceIte])
theorem c_X4_compareHolds {κ : Mem} {p Lv L b : Int} {s : BS} {μ : Mem} (hko : KO κ) (hp : 0 ≤ p ∧ p < κ 129 0) (hp2 : p < κ 124 0) (haw : κ 130 0 = 0) (hL : 0 ≤ Lv ∧ Lv ≤ 4) (hW : WA κ p μ) (hC : CR (way κ p L b) μ) (hB : RC κ μ s) : Mc kX4_compareHolds [.inr (.inr 4), .inl p, .inl Lv] μ (pV (fun ν => (∃ b, CR (way κ p Lv b) ν) ∧ RC κ ν (bstB κ p Lv s (2 ^ (κ 125 0).toNat)) ∧ Fr [19, 20, 23, 24, 25, 111, 112, 113, 114] μ ν)) := by
  refine Mc_of (by decide +kernel) (fun _ => Nat.le_of_ble_eq_true rfl) ?_
  show AW kX4_compareHolds 0 [some (.inr (.inr 4)), some (.inl p), some (.inl Lv), none, none, none, none] [] μ _
  have r125 := hko.1.2.1
  have r129 := hko.1.1
  have c106 : μ 106 0 = κ 125 0 := by have := hC.2.2.1; rwa [way_o (c := 125) (by decide) (by decide)] at this
  have hps := pw_small (k := min Lv (κ 125 0)) (by omega)
  refine s_iload_2 (pc := 0) dX4_compareHolds_0 ?_
  refine s_aload_0 (pc := 1) dX4_compareHolds_1 ?_
  refine gfX4_27 (pc := 2) dX4_compareHolds_2 rfl ?_
  refine gfX4_65 (pc := 5) dX4_compareHolds_5 rfl ?_
  try rw [c106]
  refine z_min (pc := 8) dX4_compareHolds_8 rfl lnX4_69 (Nat.le_of_ble_eq_true rfl) (Nat.le_of_ble_eq_true rfl) (by omega) (by omega) ?_
  refine s_istore_3 (pc := 11) dX4_compareHolds_11 (Nat.le_of_ble_eq_true rfl) rfl ?_
  refine s_aload_0 (pc := 12) dX4_compareHolds_12 ?_
  refine gfX4_27 (pc := 13) dX4_compareHolds_13 rfl ?_
  refine gfX4_47 (pc := 16) dX4_compareHolds_16 rfl ?_
  refine s_iload_1 (pc := 19) dX4_compareHolds_19 ?_
  refine s_iload_2 (pc := 20) dX4_compareHolds_20 ?_
  refine z_iastore (pc := 21) dX4_compareHolds_21 ly_20 ip_20 (by omega) (by omega) ?_
  refine s_iconst_0 (pc := 22) dX4_compareHolds_22 ?_
  refine s_istore_4 (pc := 23) dX4_compareHolds_23 (Nat.le_of_ble_eq_true rfl) rfl ?_
  have hCL := way_C5 (L' := Lv) hC hL
  refine AW.mono (lp_X4_ch (μ := wr μ 20 p Lv) hko hp hp2 haw hL rfl (hW.fr ((Fr.rf (F := [20])).wr (by decide)) rfl) 17 0 b (wr μ 20 p Lv) (by omega) (by omega) Fr.rf hCL (hB.fr ((Fr.rf (F := [20])).wr (by decide)) (by decide)) (by omega)) ?_
  rintro r ν ⟨hr, hCb, hBb, hFb⟩
  exact ⟨hr, hCb, hBb, ((Fr.rf.wr (by decide)).tr (hFb.mono (by decide)))⟩
theorem lp_X4_cw {κ : Mem} {p : Int} {μ : Mem} (hko : KO κ) (hp : 0 ≤ p ∧ p < κ 129 0) (hp2 : p < κ 124 0) (haw : κ 130 0 = 0) : ∀ (f : Nat) (k L b : Int) (ν : Mem), (-1 ≤ k) → (k < κ 125 0) → (Fr [19, 20, 21, 22, 23, 24, 25, 111, 112, 113, 114] μ ν) → (CR (way κ p L b) ν) → (WA κ p ν) → (RC κ ν (bstL κ p (κ 125 0 - k).toNat)) → k + 1 < (f : Int) → AW kX4_compareWays 52 [some (.inr (.inr 4)), some (.inl p), some (.inl (κ 49 p)), some (.inl (κ 50 p)), some (.inl k)] [] ν (pV (fun ν => CR κ ν ∧ RC κ ν (best κ p) ∧ Fr [19, 20, 21, 22, 23, 24, 25, 111, 112, 113, 114] μ ν)) := by
  intro f
  induction f with
  | zero =>
    intro k L b ν h0 h1 hF hC hW hB hm
    exfalso; omega
  | succ f ih =>
    intro k L b ν h0 h1 hF hC hW hB hm
    have hk1 := hko.1
    have r129 := hk1.1
    have r125 := hk1.2.1
    have rP := hk1.2.2.2.2.2.2.1 p hp.1 (by omega)
    refine s_iload_4 (pc := 52) dX4_compareWays_52 ?_
    refine s_if_lt (pc := 54) 70 dX4_compareWays_54 rfl (by omega) (fun h54 => ?_) (fun h54 => ?_)
    · refine s_aload_0 (pc := 70) dX4_compareWays_70 ?_
      refine gfX4_27 (pc := 71) dX4_compareWays_71 rfl ?_
      refine gfX4_44 (pc := 74) dX4_compareWays_74 rfl ?_
      refine s_iload_1 (pc := 77) dX4_compareWays_77 ?_
      refine s_iload_2 (pc := 78) dX4_compareWays_78 ?_
      refine z_iastore (pc := 79) dX4_compareWays_79 ly_19 ip_19 (by omega) (by omega) ?_
      refine s_aload_0 (pc := 80) dX4_compareWays_80 ?_
      refine gfX4_27 (pc := 81) dX4_compareWays_81 rfl ?_
      refine gfX4_47 (pc := 84) dX4_compareWays_84 rfl ?_
      refine s_iload_1 (pc := 87) dX4_compareWays_87 ?_
      refine s_iload_3 (pc := 88) dX4_compareWays_88 ?_
      refine z_iastore (pc := 89) dX4_compareWays_89 ly_20 ip_20 (by omega) (by omega) ?_
      refine s_return (pc := 90) dX4_compareWays_90 rfl ?_
      cases (show k = -1 by omega)
      have hC3 := way_C5 (way_C hC (b' := κ 49 p) (by omega)) (L' := κ 50 p) (by omega)
      rw [way_id] at hC3
      refine ⟨hC3, ?_, (hF.wr (by decide)).wr (by decide)⟩
      have he : (κ 125 0 - -1).toNat = (κ 125 0).toNat + 1 := by omega
      rw [he] at hB
      exact RC.fr hB (((Fr.rf (F := [19, 20])).wr (by decide)).wr (by decide)) (by decide)
    · refine s_aload_0 (pc := 57) dX4_compareWays_57 ?_
      refine s_iload_1 (pc := 58) dX4_compareWays_58 ?_
      refine s_iload_4 (pc := 59) dX4_compareWays_59 ?_
      refine cV2v (pc := 61) (Ky := kX4_compareHolds) dX4_compareWays_61 rfl lnX4_61 okX4_compareHolds ⟨4, TX4, 11, rfl, rfl⟩ ⟨Nat.le_of_ble_eq_true rfl, Nat.le_of_ble_eq_true rfl⟩ (Nat.le_of_ble_eq_true rfl) (c_X4_compareHolds hko hp hp2 haw (by omega) hW hC hB) ?_
      rintro ν61 ⟨⟨b61, hC61⟩, hB61, hF61⟩
      refine s_iinc_4 (pc := 64) dX4_compareWays_64 (Nat.le_of_ble_eq_true rfl) rfl ?_
      refine s_goto (pc := 67) 52 dX4_compareWays_67 rfl ?_
      refine s_le ?_ (ih (k - 1) k b61 ν61 (by omega) (by omega) (hF.tr (hF61.mono (by decide))) hC61 (hW.fr hF61 rfl) ?_ (by omega))
      · exact ⟨Or.inr rfl, Or.inr rfl, Or.inr rfl, Or.inr rfl, Or.inr rfl, trivial⟩
      have he : (κ 125 0 - (k - 1)).toNat = (κ 125 0 - k).toNat + 1 := by omega
      rw [he]
      have hlv : lvO κ (κ 125 0 - k).toNat = k := by unfold lvO; rw [if_neg (by omega)]; omega
      show RC κ ν61 (bstB κ p (lvO κ (κ 125 0 - k).toNat) (bstL κ p (κ 125 0 - k).toNat) (2 ^ (κ 125 0).toNat))
      rw [hlv]
      exact hB61
theorem c_X4_compareWays {κ : Mem} {p : Int} {μ : Mem} (hC : CR κ μ) (hko : KO κ) (hp : 0 ≤ p ∧ p < κ 129 0) (hp2 : p < κ 124 0) (haw : κ 130 0 = 0) : Mc kX4_compareWays [.inr (.inr 4), .inl p] μ (pV (fun ν => CR κ ν ∧ RC κ ν (best κ p) ∧ Fr [19, 20, 21, 22, 23, 24, 25, 111, 112, 113, 114] μ ν)) := by
  refine Mc_of (by decide +kernel) (fun _ => Nat.le_of_ble_eq_true rfl) ?_
  show AW kX4_compareWays 0 [some (.inr (.inr 4)), some (.inl p), none, none, none] [] μ _
  have hk1 := hko.1
  have r129 := hk1.1
  have r125 := hk1.2.1
  obtain ⟨c19, c20, -⟩ := hC.2.2.2.2.2.2.2.1 p hp.1 hp.2
  refine s_aload_0 (pc := 0) dX4_compareWays_0 ?_
  refine gfX4_27 (pc := 1) dX4_compareWays_1 rfl ?_
  refine gfX4_44 (pc := 4) dX4_compareWays_4 rfl ?_
  refine s_iload_1 (pc := 7) dX4_compareWays_7 ?_
  refine z_iaload (pc := 8) dX4_compareWays_8 ly_19 (by omega) (by omega) ?_
  try rw [c106]
  rw [c19]
  refine s_istore_2 (pc := 9) dX4_compareWays_9 (Nat.le_of_ble_eq_true rfl) rfl ?_
  refine s_aload_0 (pc := 10) dX4_compareWays_10 ?_
  refine gfX4_27 (pc := 11) dX4_compareWays_11 rfl ?_
  refine gfX4_47 (pc := 14) dX4_compareWays_14 rfl ?_
  refine s_iload_1 (pc := 17) dX4_compareWays_17 ?_
  refine z_iaload (pc := 18) dX4_compareWays_18 ly_20 (by omega) (by omega) ?_
  try rw [c106]
  rw [c20]
  refine s_istore_3 (pc := 19) dX4_compareWays_19 (Nat.le_of_ble_eq_true rfl) rfl ?_
  refine s_aload_0 (pc := 20) dX4_compareWays_20 ?_
  refine gfX4_31 (pc := 21) dX4_compareWays_21 rfl ?_
  refine s_iload_1 (pc := 24) dX4_compareWays_24 ?_
  refine cV1v (pc := 25) (Ky := kX0_weighChoices) dX4_compareWays_25 rfl lnX4_50 okX0_weighChoices ⟨0, TX0, 7, rfl, rfl⟩ ⟨Nat.le_of_ble_eq_true rfl, Nat.le_of_ble_eq_true rfl⟩ (Nat.le_of_ble_eq_true rfl) (c_X0_weighChoices hC hp) ?_
  rintro ν25 ⟨⟨L25, b25, hC25⟩, hW25, hF25⟩
  refine s_aload_0 (pc := 28) dX4_compareWays_28 ?_
  refine s_ldc2_w (pc := 29) dX4_compareWays_29 rfl cnX4_55 ?_
  refine pfX4_57 (pc := 32) dX4_compareWays_32 rfl ?_
  refine s_aload_0 (pc := 35) dX4_compareWays_35 ?_
  refine s_iload_1 (pc := 36) dX4_compareWays_36 ?_
  refine s_iconst_4 (pc := 37) dX4_compareWays_37 ?_
  have hF32 : Fr [112] ν25 (wr ν25 112 0 9223372036854775807) := Fr.rf.wr (by decide)
  have hC32 := hC25.fr hF32 (by decide)
  have hW32 := hW25.fr hF32 rfl
  refine cV2v (pc := 38) (Ky := kX4_compareHolds) dX4_compareWays_38 rfl lnX4_61 okX4_compareHolds ⟨4, TX4, 11, rfl, rfl⟩ ⟨Nat.le_of_ble_eq_true rfl, Nat.le_of_ble_eq_true rfl⟩ (Nat.le_of_ble_eq_true rfl) (c_X4_compareHolds (s := (-1, 0, 0)) hko hp hp2 haw (by omega) hW32 hC32 (Or.inl ⟨by decide, by rw [wr_s, if_pos rfl]⟩)) ?_
  rintro ν38 ⟨⟨b38, hC38⟩, hB38, hF38⟩
  have c106 : ν38 106 0 = κ 125 0 := by have := hC38.2.2.1; rwa [way_o (c := 125) (by decide) (by decide)] at this
  have hW38 := hW32.fr hF38 rfl
  refine s_aload_0 (pc := 41) dX4_compareWays_41 ?_
  refine gfX4_27 (pc := 42) dX4_compareWays_42 rfl ?_
  refine gfX4_65 (pc := 45) dX4_compareWays_45 rfl ?_
  try rw [c106]
  refine s_iconst_1 (pc := 48) dX4_compareWays_48 ?_
  refine s_isub (pc := 49) dX4_compareWays_49 ?_
  refine s_istore_4 (pc := 50) dX4_compareWays_50 (Nat.le_of_ble_eq_true rfl) rfl ?_
  refine lp_X4_cw hko hp hp2 haw 5 (κ 125 0 - 1) 4 b38 ν38 (by omega) (by omega) ((hF25.mono (by decide)).tr ((hF32.mono (by decide)).tr (hF38.mono (by decide)))) hC38 hW38 ?_ (by omega)
  rw [show (κ 125 0 - (κ 125 0 - 1)).toNat = 1 by omega]
  exact hB38
