/-! ===== drawing lots ===== -/
theorem ushr_in {x : Int} : 0 ≤ ushrI x 16 ∧ ushrI x 16 < 65536 := by
  have h : ((Int32.ofInt x).toUInt32 >>> ((Int32.ofInt 16).toUInt32 &&& Int32.toUInt32 31)).toNat < 65536 := by
    rw [UInt32.toNat_shiftRight, show ((Int32.ofInt 16).toUInt32 &&& Int32.toUInt32 31).toNat % 32 = 16 by decide, Nat.shiftRight_eq_div_pow]
    have := (Int32.ofInt x).toUInt32.toNat_lt
    omega
  unfold ushrI
  generalize ((Int32.ofInt x).toUInt32 >>> ((Int32.ofInt 16).toUInt32 &&& Int32.toUInt32 31)) = u at h ⊢
  have h2 : u.toInt32.toInt = u.toNat := by
    have e : u = UInt32.ofNat u.toNat := by simp
    rw [e, UInt32.toInt32_ofNat']
    have := nI_int u.toNat (by omega)
    unfold nI at this
    rw [show (UInt32.ofNat u.toNat).toNat = u.toNat by simp]
    exact this
  omega
def sd (z : Int) : Int := 1103515245 * z + 12345
def lt (z k : Int) : Int := ushrI (sd z) 16 % k
theorem lt_in {z k : Int} (h : 0 < k) : 0 ≤ lt z k ∧ lt z k < k := ⟨Int.emod_nonneg _ (by omega), Int.emod_lt_of_pos _ h⟩
/-- who laughs, and the seed after -/
def lgN (κ : Mem) (i z : Int) : Nat → Int × Int
  | 0 => (0, z)
  | p + 1 => if i < κ 50 p ∧ bt (κ 130 0) p = 0 then (if lt (lgN κ i z p).2 4 < kq κ p i then ((lgN κ i z p).1 + 2 ^ p, sd (lgN κ i z p).2) else ((lgN κ i z p).1, sd (lgN κ i z p).2)) else lgN κ i z p
theorem lgN_succ {κ : Mem} {i z p : Int} (h : 0 ≤ p) : lgN κ i z (p + 1).toNat = if i < κ 50 p ∧ bt (κ 130 0) p = 0 then (if lt (lgN κ i z p.toNat).2 4 < kq κ p i then ((lgN κ i z p.toNat).1 + 2 ^ p.toNat, sd (lgN κ i z p.toNat).2) else ((lgN κ i z p.toNat).1, sd (lgN κ i z p.toNat).2)) else lgN κ i z p.toNat := by
  rw [show (p + 1).toNat = p.toNat + 1 by omega]
  show (if i < κ 50 ((p.toNat : Nat) : Int) ∧ bt (κ 130 0) ((p.toNat : Nat) : Int) = 0 then (if lt (lgN κ i z p.toNat).2 4 < kq κ ((p.toNat : Nat) : Int) i then ((lgN κ i z p.toNat).1 + 2 ^ p.toNat, sd (lgN κ i z p.toNat).2) else ((lgN κ i z p.toNat).1, sd (lgN κ i z p.toNat).2)) else lgN κ i z p.toNat) = _
  rw [show ((p.toNat : Nat) : Int) = p by omega]
theorem lgN_in {κ : Mem} {i z : Int} : ∀ p : Nat, 0 ≤ (lgN κ i z p).1 ∧ (lgN κ i z p).1 < 2 ^ p
  | 0 => by show (0 : Int) ≤ 0 ∧ (0 : Int) < 1; decide
  | p + 1 => by
    have h1 := lgN_in (κ := κ) (i := i) (z := z) p
    have h2 : (2 : Int) ^ (p + 1) = 2 ^ p * 2 := Int.pow_succ 2 p
    unfold lgN
    split
    · split <;> (dsimp only; omega)
    · omega
theorem bmask {b p : Int} (hb : 0 ≤ b ∧ b < 16) (hp : 0 ≤ p ∧ p < 4) : andI b (shlI 1 p - 1) = b % (2 : Int) ^ p.toNat := by
  refine four (P := fun p => andI b (shlI 1 p - 1) = b % (2 : Int) ^ p.toNat) hp ?_ ?_ ?_ ?_ <;> refine bits16 (P := fun b => andI b (shlI 1 _ - 1) = b % (2 : Int) ^ _) hb ?_ ?_ ?_ ?_ ?_ ?_ ?_ ?_ ?_ ?_ ?_ ?_ ?_ ?_ ?_ ?_ <;> decide +kernel
theorem or_top {b p : Int} (hp : 0 ≤ p ∧ p < 4) (hb : 0 ≤ b ∧ b < 2 ^ p.toNat) : orI b (shlI 1 p) = b + 2 ^ p.toNat := by
  have h16 : b < 16 := by
    have : (2 : Int) ^ p.toNat ≤ 16 := (pw_small (k := p) (by omega)).2
    omega
  obtain ⟨hb0, hb1⟩ := hb
  revert hb1
  refine four (P := fun p => b < 2 ^ p.toNat → orI b (shlI 1 p) = b + 2 ^ p.toNat) hp ?_ ?_ ?_ ?_ <;> refine bits16 (P := fun b => b < 2 ^ _ → orI b (shlI 1 _) = b + 2 ^ _) ⟨hb0, h16⟩ ?_ ?_ ?_ ?_ ?_ ?_ ?_ ?_ ?_ ?_ ?_ ?_ ?_ ?_ ?_ ?_ <;> decide +kernel
abbrev okP (b r q : Int) : Prop := bt b q = 1 ∧ on (b % (2 : Int) ^ q.toNat) = r
def tk (b r p : Int) : Int := if p < 0 ∧ okP b r 0 then 0 else if p < 1 ∧ okP b r 1 then 1 else if p < 2 ∧ okP b r 2 then 2 else if p < 3 ∧ okP b r 3 then 3 else -1
theorem tk_in {b r p : Int} : -1 ≤ tk b r p ∧ tk b r p ≤ 3 := by unfold tk; split <;> (try split) <;> (try split) <;> (try split) <;> omega
theorem tk_up {b r p : Int} (hp : 0 ≤ p ∧ p < 4) : tk b r (p - 1) = if okP b r p then p else tk b r p := by
  refine four (P := fun p => tk b r (p - 1) = if okP b r p then p else tk b r p) hp ?_ ?_ ?_ ?_ <;> unfold tk <;> simp (decide := true)
theorem tk_top {b r P : Int} (hP : 0 ≤ P ∧ P ≤ 4) (hb : 0 ≤ b ∧ b < 2 ^ P.toNat) : tk b r (P - 1) = -1 := by
  have h16 : b < 16 := by
    have : (2 : Int) ^ P.toNat ≤ 16 := (pw_small hP).2
    omega
  have hq : ∀ q : Int, P ≤ q → q < 4 → bt b q = 0 := by
    intro q q0 q1
    have qn : 0 ≤ q := by omega
    obtain ⟨hb0, hb1⟩ := hb
    revert q0 hb1
    rcases (show P = 0 ∨ P = 1 ∨ P = 2 ∨ P = 3 ∨ P = 4 by omega) with rfl | rfl | rfl | rfl | rfl <;> (intro q0 hb1; revert q0 hb1; refine four (P := fun q => _ ≤ q → b < _ → bt b q = 0) ⟨by assumption, q1⟩ ?_ ?_ ?_ ?_ <;> refine bits16 (P := fun b => _ ≤ _ → b < _ → bt b _ = 0) ⟨hb0, h16⟩ ?_ ?_ ?_ ?_ ?_ ?_ ?_ ?_ ?_ ?_ ?_ ?_ ?_ ?_ ?_ ?_ <;> decide +kernel)
  unfold tk
  rw [if_neg (fun q => by have := hq 0 (by omega) (by omega); have := q.2.1; omega), if_neg (fun q => by have := hq 1 (by omega) (by omega); have := q.2.1; omega), if_neg (fun q => by have := hq 2 (by omega) (by omega); have := q.2.1; omega), if_neg (fun q => by have := hq 3 (by omega) (by omega); have := q.2.1; omega)]
abbrev stirs (sev n : Int) : Prop := n = 1 ∨ (1 < n ∧ 0 < sev)
abbrev draws (sev n : Int) : Prop := 1 < n ∧ sev = 2
/-- one evening, from tale to tale: owner, whether it is settled, the seed -/
def evS (κ : Mem) (s : Int × Int × Int) (b : Int × Int) : Int × Int × Int :=
  if stirs (κ 127 0) (on b.1) then (if s.2.1 = 0 then tk b.1 (if draws (κ 127 0) (on b.1) then lt b.2 (on b.1) else 0) (-1) else s.1, if κ 126 0 = 1 then 1 else 0, if draws (κ 127 0) (on b.1) then sd b.2 else b.2) else (s.1, s.2.1, b.2)
def evN (κ : Mem) (z : Int) : Nat → Int × Int × Int
  | 0 => (κ 128 0, 0, z)
  | i + 1 => evS κ (evN κ z i) (lgN κ i (evN κ z i).2.2 (κ 129 0).toNat)
theorem evN_succ {κ : Mem} {z i : Int} (h : 0 ≤ i) : evN κ z (i + 1).toNat = evS κ (evN κ z i.toNat) (lgN κ i (evN κ z i.toNat).2.2 (κ 129 0).toNat) := by
  rw [show (i + 1).toNat = i.toNat + 1 by omega]
  show evS κ (evN κ z i.toNat) (lgN κ ((i.toNat : Nat) : Int) (evN κ z i.toNat).2.2 (κ 129 0).toNat) = _
  rw [show ((i.toNat : Nat) : Int) = i by omega]
def ev (κ : Mem) (z : Int) : Int × Int := ((evN κ z (κ 125 0).toNat).1, (evN κ z (κ 125 0).toNat).2.2)
theorem evN_in {κ : Mem} (h : KR κ) {z : Int} : ∀ i : Nat, (-1 ≤ (evN κ z i).1 ∧ (evN κ z i).1 ≤ 3) ∧ ((evN κ z i).2.1 = 0 ∨ (evN κ z i).2.1 = 1)
  | 0 => by
    have := h.2.2.2.2.1
    exact ⟨by show -1 ≤ κ 128 0 ∧ κ 128 0 ≤ 3; omega, Or.inl rfl⟩
  | i + 1 => by
    have ih := evN_in h (z := z) i
    have hp := @tk_in (lgN κ i (evN κ z i).2.2 (κ 129 0).toNat).1 (if draws (κ 127 0) (on (lgN κ i (evN κ z i).2.2 (κ 129 0).toNat).1) then lt (lgN κ i (evN κ z i).2.2 (κ 129 0).toNat).2 (on (lgN κ i (evN κ z i).2.2 (κ 129 0).toNat).1) else 0) (-1)
    unfold evN evS
    split
    · refine ⟨?_, ?_⟩
      · dsimp only; split
        · exact hp
        · exact ih.1
      · dsimp only; split <;> omega
    · exact ih
theorem c_X9_lot {k : Int} {μ : Mem} (hk : 1 ≤ k ∧ k ≤ 4) : Mc kX9_lot [.inr (.inr 9), .inl k] μ (pI (fun z ν => lt (μ 134 0) k = z ∧ wr μ 134 0 (sd (μ 134 0)) = ν)) := by
  refine Mc_of (by decide +kernel) (fun _ => Nat.le_of_ble_eq_true rfl) ?_
  show AW kX9_lot 0 [some (.inr (.inr 9)), some (.inl k)] [] μ _
  refine s_aload_0 (pc := 0) dX9_lot_0 ?_
  refine s_ldc_w (pc := 1) dX9_lot_1 rfl cnX9_317 ?_
  refine s_aload_0 (pc := 4) dX9_lot_4 ?_
  refine gfX9_318 (pc := 5) dX9_lot_5 rfl ?_
  try simp (decide := true) only [wr_s, wr_n, wa_s, wa_n, mg_i, mg_o, if_true, eq_self, reduceIte]
  refine s_imul (pc := 8) dX9_lot_8 ?_
  refine s_sipush (pc := 9) (z := 12345) dX9_lot_9 rfl ?_
  refine s_iadd (pc := 12) dX9_lot_12 ?_
  refine pfX9_318 (pc := 13) dX9_lot_13 rfl ?_
  refine s_aload_0 (pc := 16) dX9_lot_16 ?_
  refine gfX9_318 (pc := 17) dX9_lot_17 rfl ?_
  try simp (decide := true) only [wr_s, wr_n, wa_s, wa_n, mg_i, mg_o, if_true, eq_self, reduceIte]
  refine s_bipush (pc := 20) (z := 16) dX9_lot_20 rfl ?_
  refine s_iushr (pc := 22) dX9_lot_22 ?_
  refine s_iload_1 (pc := 23) dX9_lot_23 ?_
  have hu := ushr_in (x := 1103515245 * μ 134 0 + 12345)
  refine s_irem (pc := 24) dX9_lot_24 (by omega) (by omega) ?_
  rw [Int.tmod_eq_emod_of_nonneg (by omega)]
  refine s_ireturn (pc := 25) dX9_lot_25 rfl ?_
  exact ⟨rfl, rfl⟩
theorem lp_X9_evA {κ : Mem} {o t i z : Int} {μ : Mem} {post : Option AV → Mem → Prop} (hMμ : MR κ μ) (e129 : μ 124 0 = κ 129 0) (hi : 0 ≤ i ∧ i < 4) (hk : ∀ ν, Fr [134] μ ν → ν 134 0 = (lgN κ i z (κ 129 0).toNat).2 → AW kX9_evening 72 [some (.inr (.inr 9)), some (.inl o), some (.inl t), some (.inl i), some (.inl (lgN κ i z (κ 129 0).toNat).1), none, none, none, none, none] [] ν post) : ∀ (f : Nat) (p : Int) (ν : Mem), (0 ≤ p) → (p ≤ κ 129 0) → (Fr [134] μ ν) → (ν 134 0 = (lgN κ i z p.toNat).2) → κ 129 0 - p < (f : Int) → AW kX9_evening 23 [some (.inr (.inr 9)), some (.inl o), some (.inl t), some (.inl i), some (.inl (lgN κ i z p.toNat).1), some (.inl p), none, none, none, none] [] ν (post) := by
  intro f
  induction f with
  | zero =>
    intro p ν h0 h1 hF hs hm
    exfalso; omega
  | succ f ih =>
    intro p ν h0 h1 hF hs hm
    have r129 := hMμ.1.1
    have hM := hMμ.frB hF (by decide)
    have c124 : ν 124 0 = κ 129 0 := (hF.at 124 rfl 0).trans e129
    have c129 : ν 129 0 = κ 129 0 := hM.2.1
    have hsu := lgN_succ (κ := κ) (i := i) (z := z) h0
    have hlg := lgN_in (κ := κ) (i := i) (z := z) p.toNat
    have hps := pw_small (k := p) (by omega)
    have hlt := lt_in (z := (lgN κ i z p.toNat).2) (k := 4) (by omega)
    refine s_iload_5 (pc := 23) dX9_evening_23 ?_
    refine s_aload_0 (pc := 25) dX9_evening_25 ?_
    refine gfX9_126 (pc := 26) dX9_evening_26 rfl ?_
    try simp (decide := true) only [wr_s, wr_n, wa_s, wa_n, mg_i, mg_o, if_true, eq_self, reduceIte]
    try rw [c124]
    try rw [c129]
    refine s_icmp_ge (pc := 29) 72 dX9_evening_29 rfl (by omega) (by omega) (fun h29 => ?_) (fun h29 => ?_)
    · cases (show p = κ 129 0 by omega)
      refine s_le ?_ (hk ν hF hs)
      exact ⟨Or.inr rfl, Or.inr rfl, Or.inr rfl, Or.inr rfl, Or.inr rfl, Or.inl rfl, Or.inl rfl, Or.inl rfl, Or.inl rfl, Or.inl rfl, trivial⟩
    · refine s_aload_0 (pc := 32) dX9_evening_32 ?_
      refine s_iload_5 (pc := 33) dX9_evening_33 ?_
      refine s_iload_3 (pc := 35) dX9_evening_35 ?_
      refine cV2i (pc := 36) (Ky := kX9_isThere) dX9_evening_36 rfl lnX9_186 okX9_isThere ⟨9, TX9, 40, rfl, rfl⟩ ⟨Nat.le_of_ble_eq_true rfl, Nat.le_of_ble_eq_true rfl⟩ (Nat.le_of_ble_eq_true rfl) (c_X9_isThere hM (by omega) (by omega)) ?_
      rintro _ _ ⟨rfl, rfl⟩
      refine s_if_eq (pc := 39) 66 dX9_evening_39 rfl (by omega) (fun h39 => ?_) (fun h39 => ?_)
      · have hth : ¬ (i < κ 50 p ∧ bt (κ 130 0) p = 0) := fun q => by rw [if_pos q] at h39; exact absurd h39 (by decide)
        rw [if_neg hth] at hsu
        refine s_iinc_5 (pc := 66) dX9_evening_66 (Nat.le_of_ble_eq_true rfl) rfl ?_
        refine s_goto (pc := 69) 23 dX9_evening_69 rfl ?_
        first
          | (refine s_le ?_ (ih (p + 1) _ (by omega) (by omega) (hF.wr (by decide)) (by rw [hsu, wr_s, if_pos rfl]) (by omega))
             rw [hsu]
             exact ⟨Or.inr rfl, Or.inr rfl, Or.inr rfl, Or.inr rfl, Or.inr rfl, Or.inr rfl, Or.inl rfl, Or.inl rfl, Or.inl rfl, Or.inl rfl, trivial⟩
             done)
          | (refine s_le ?_ (ih (p + 1) _ (by omega) (by omega) hF (by rw [hsu]; exact hs) (by omega))
             rw [hsu]
             exact ⟨Or.inr rfl, Or.inr rfl, Or.inr rfl, Or.inr rfl, Or.inr rfl, Or.inr rfl, Or.inl rfl, Or.inl rfl, Or.inl rfl, Or.inl rfl, trivial⟩)
      · have hth : i < κ 50 p ∧ bt (κ 130 0) p = 0 := Decidable.byContradiction fun q => by rw [if_neg q] at h39; exact h39 rfl
        rw [if_pos hth] at hsu
        refine s_aload_0 (pc := 42) dX9_evening_42 ?_
        refine s_iconst_4 (pc := 43) dX9_evening_43 ?_
        refine cV1i (pc := 44) (Ky := kX9_lot) dX9_evening_44 rfl lnX9_321 okX9_lot ⟨9, TX9, 40, rfl, rfl⟩ ⟨Nat.le_of_ble_eq_true rfl, Nat.le_of_ble_eq_true rfl⟩ (Nat.le_of_ble_eq_true rfl) (c_X9_lot (by omega)) ?_
        rintro _ _ ⟨rfl, rfl⟩
        rw [hs]
        have hM44 := hM.frB (Fr.rf.wr (c := 134) (k := 0) (z := sd (lgN κ i z p.toNat).2) (by decide) : Fr [134] ν _) (by decide)
        have hq := kq_in hM.1 (p := p) (i := i) (by omega) hi
        refine s_aload_0 (pc := 47) dX9_evening_47 ?_
        refine s_iload_5 (pc := 48) dX9_evening_48 ?_
        refine s_iload_3 (pc := 50) dX9_evening_50 ?_
        refine cV2i (pc := 51) (Ky := kX9_quartersNow) dX9_evening_51 rfl lnX9_197 okX9_quartersNow ⟨9, TX9, 40, rfl, rfl⟩ ⟨Nat.le_of_ble_eq_true rfl, Nat.le_of_ble_eq_true rfl⟩ (Nat.le_of_ble_eq_true rfl) (c_X9_quartersNow hM44 (by omega) (by omega)) ?_
        rintro _ _ ⟨rfl, rfl⟩
        refine s_icmp_ge (pc := 54) 66 dX9_evening_54 rfl (by omega) (by omega) (fun h54 => ?_) (fun h54 => ?_)
        · have hlq : ¬ lt (lgN κ i z p.toNat).2 4 < kq κ p i := by omega
          rw [if_neg hlq] at hsu
          refine s_iinc_5 (pc := 66) dX9_evening_66 (Nat.le_of_ble_eq_true rfl) rfl ?_
          refine s_goto (pc := 69) 23 dX9_evening_69 rfl ?_
          first
            | (refine s_le ?_ (ih (p + 1) _ (by omega) (by omega) (hF.wr (by decide)) (by rw [hsu, wr_s, if_pos rfl]) (by omega))
               rw [hsu]
               exact ⟨Or.inr rfl, Or.inr rfl, Or.inr rfl, Or.inr rfl, Or.inr rfl, Or.inr rfl, Or.inl rfl, Or.inl rfl, Or.inl rfl, Or.inl rfl, trivial⟩
               done)
            | (refine s_le ?_ (ih (p + 1) _ (by omega) (by omega) hF (by rw [hsu]; exact hs) (by omega))
               rw [hsu]
               exact ⟨Or.inr rfl, Or.inr rfl, Or.inr rfl, Or.inr rfl, Or.inr rfl, Or.inr rfl, Or.inl rfl, Or.inl rfl, Or.inl rfl, Or.inl rfl, trivial⟩)
        · have hlq : lt (lgN κ i z p.toNat).2 4 < kq κ p i := by omega
          rw [if_pos hlq] at hsu
          refine s_iload_4 (pc := 57) dX9_evening_57 ?_
          refine s_iconst_1 (pc := 59) dX9_evening_59 ?_
          refine s_iload_5 (pc := 60) dX9_evening_60 ?_
          refine s_ishl (pc := 62) dX9_evening_62 ?_
          refine s_ior (pc := 63) dX9_evening_63 ?_
          rw [or_top (by omega) hlg]
          refine s_istore_4 (pc := 64) dX9_evening_64 (Nat.le_of_ble_eq_true rfl) rfl ?_
          refine s_iinc_5 (pc := 66) dX9_evening_66 (Nat.le_of_ble_eq_true rfl) rfl ?_
          refine s_goto (pc := 69) 23 dX9_evening_69 rfl ?_
          first
            | (refine s_le ?_ (ih (p + 1) _ (by omega) (by omega) (hF.wr (by decide)) (by rw [hsu, wr_s, if_pos rfl]) (by omega))
               rw [hsu]
               exact ⟨Or.inr rfl, Or.inr rfl, Or.inr rfl, Or.inr rfl, Or.inr rfl, Or.inr rfl, Or.inl rfl, Or.inl rfl, Or.inl rfl, Or.inl rfl, trivial⟩
               done)
            | (refine s_le ?_ (ih (p + 1) _ (by omega) (by omega) hF (by rw [hsu]; exact hs) (by omega))
               rw [hsu]
               exact ⟨Or.inr rfl, Or.inr rfl, Or.inr rfl, Or.inr rfl, Or.inr rfl, Or.inr rfl, Or.inl rfl, Or.inl rfl, Or.inl rfl, Or.inl rfl, trivial⟩)
theorem lp_X9_evB {o t i b r : Int} {ν : Mem} {post : Option AV → Mem → Prop} (hb : 0 ≤ b ∧ b < 16) (hr : 0 ≤ r ∧ r < 4) (hk : AW kX9_evening 195 [some (.inr (.inr 9)), some (.inl o), some (.inl t), some (.inl i), none, none, none, some (.inl (tk b r (-1))), none, none] [] ν post) : ∀ (f : Nat) (p : Int), (-1 ≤ p) → (p < 4) → p + 1 < (f : Int) → AW kX9_evening 135 [some (.inr (.inr 9)), some (.inl o), some (.inl t), some (.inl i), some (.inl b), none, some (.inl r), some (.inl (tk b r p)), some (.inl p), none] [] ν (post) := by
  intro f
  induction f with
  | zero =>
    intro p h0 h1 hm
    exfalso; omega
  | succ f ih =>
    intro p h0 h1 hm
    have hbt := bt_in (b := b) (k := p)
    refine s_iload_8 (pc := 135) dX9_evening_135 ?_
    refine s_if_lt (pc := 137) 195 dX9_evening_137 rfl (by omega) (fun h137 => ?_) (fun h137 => ?_)
    · cases (show p = -1 by omega)
      refine s_le ?_ hk
      exact ⟨Or.inr rfl, Or.inr rfl, Or.inr rfl, Or.inr rfl, Or.inl rfl, Or.inl rfl, Or.inl rfl, Or.inr rfl, Or.inl rfl, Or.inl rfl, trivial⟩
    · have hup := tk_up (b := b) (r := r) (p := p) (by omega)
      have hmo := bmod_nn (b := b) (p := p)
      have hml : b % (2 : Int) ^ p.toNat ≤ b := by rw [Int.emod_def]; have := Int.mul_nonneg (Int.le_of_lt (pow_pos (k := p.toNat))) (Int.ediv_nonneg hb.1 (Int.le_of_lt (pow_pos (k := p.toNat)))); omega
      refine s_iload_4 (pc := 140) dX9_evening_140 ?_
      refine s_iload_8 (pc := 142) dX9_evening_142 ?_
      refine s_ishr (pc := 144) dX9_evening_144 ?_
      refine s_iconst_1 (pc := 145) dX9_evening_145 ?_
      refine s_iand (pc := 146) dX9_evening_146 ?_
      rw [shr_bt (by omega) (by omega)]
      refine s_iconst_1 (pc := 147) dX9_evening_147 ?_
      refine s_icmp_ne (pc := 148) 172 dX9_evening_148 rfl (by omega) (by omega) (fun h148 => ?_) (fun h148 => ?_)
      · refine s_iconst_0 (pc := 172) dX9_evening_172 ?_
        refine s_istore_9 (pc := 173) dX9_evening_173 (Nat.le_of_ble_eq_true rfl) rfl ?_
        refine s_iload_9 (pc := 175) dX9_evening_175 ?_
        refine s_if_eq (pc := 177) 185 dX9_evening_177 rfl (by omega) (fun h177 => ?_) (fun h177 => ?_)
        · refine s_iload_7 (pc := 185) dX9_evening_185 ?_
          refine s_istore_7 (pc := 187) dX9_evening_187 (Nat.le_of_ble_eq_true rfl) rfl ?_
          refine s_iinc_8 (pc := 189) dX9_evening_189 (Nat.le_of_ble_eq_true rfl) rfl ?_
          refine s_goto (pc := 192) 135 dX9_evening_192 rfl ?_
          first
            | (refine s_le ?_ (ih (p - 1) (by omega) (by omega) (by omega))
               rw [hup]
               first
                 | (rw [if_pos ⟨by omega, by omega⟩]
                    exact ⟨Or.inr rfl, Or.inr rfl, Or.inr rfl, Or.inr rfl, Or.inr rfl, Or.inl rfl, Or.inr rfl, Or.inr rfl, Or.inr rfl, Or.inl rfl, trivial⟩
                    done)
                 | (rw [if_neg (fun q => by have := q.1; have := q.2; omega)]
                    exact ⟨Or.inr rfl, Or.inr rfl, Or.inr rfl, Or.inr rfl, Or.inr rfl, Or.inl rfl, Or.inr rfl, Or.inr rfl, Or.inr rfl, Or.inl rfl, trivial⟩))
        · exact absurd h177 (by decide)
      · refine s_iload_4 (pc := 151) dX9_evening_151 ?_
        refine s_iconst_1 (pc := 153) dX9_evening_153 ?_
        refine s_iload_8 (pc := 154) dX9_evening_154 ?_
        refine s_ishl (pc := 156) dX9_evening_156 ?_
        refine s_iconst_1 (pc := 157) dX9_evening_157 ?_
        refine s_isub (pc := 158) dX9_evening_158 ?_
        refine s_iand (pc := 159) dX9_evening_159 ?_
        rw [bmask (by omega) (by omega)]
        have hon := on_in (b := b % (2 : Int) ^ p.toNat)
        refine cS1i (pc := 160) (Ky := kX9_ones) dX9_evening_160 rfl lnX9_203 okX9_ones ⟨Nat.le_of_ble_eq_true rfl, Nat.le_of_ble_eq_true rfl⟩ (Nat.le_of_ble_eq_true rfl) (c_X9_ones (by omega)) ?_
        rintro _ _ ⟨rfl, rfl⟩
        refine s_iload_6 (pc := 163) dX9_evening_163 ?_
        refine s_icmp_ne (pc := 165) 172 dX9_evening_165 rfl (by omega) (by omega) (fun h165 => ?_) (fun h165 => ?_)
        · refine s_iconst_0 (pc := 172) dX9_evening_172 ?_
          refine s_istore_9 (pc := 173) dX9_evening_173 (Nat.le_of_ble_eq_true rfl) rfl ?_
          refine s_iload_9 (pc := 175) dX9_evening_175 ?_
          refine s_if_eq (pc := 177) 185 dX9_evening_177 rfl (by omega) (fun h177 => ?_) (fun h177 => ?_)
          · refine s_iload_7 (pc := 185) dX9_evening_185 ?_
            refine s_istore_7 (pc := 187) dX9_evening_187 (Nat.le_of_ble_eq_true rfl) rfl ?_
            refine s_iinc_8 (pc := 189) dX9_evening_189 (Nat.le_of_ble_eq_true rfl) rfl ?_
            refine s_goto (pc := 192) 135 dX9_evening_192 rfl ?_
            first
              | (refine s_le ?_ (ih (p - 1) (by omega) (by omega) (by omega))
                 rw [hup]
                 first
                   | (rw [if_pos ⟨by omega, by omega⟩]
                      exact ⟨Or.inr rfl, Or.inr rfl, Or.inr rfl, Or.inr rfl, Or.inr rfl, Or.inl rfl, Or.inr rfl, Or.inr rfl, Or.inr rfl, Or.inl rfl, trivial⟩
                      done)
                   | (rw [if_neg (fun q => by have := q.1; have := q.2; omega)]
                      exact ⟨Or.inr rfl, Or.inr rfl, Or.inr rfl, Or.inr rfl, Or.inr rfl, Or.inl rfl, Or.inr rfl, Or.inr rfl, Or.inr rfl, Or.inl rfl, trivial⟩))
          · exact absurd h177 (by decide)
        · refine s_iconst_1 (pc := 168) dX9_evening_168 ?_
          refine s_goto (pc := 169) 173 dX9_evening_169 rfl ?_
          refine s_istore_9 (pc := 173) dX9_evening_173 (Nat.le_of_ble_eq_true rfl) rfl ?_
          refine s_iload_9 (pc := 175) dX9_evening_175 ?_
          refine s_if_eq (pc := 177) 185 dX9_evening_177 rfl (by omega) (fun h177 => ?_) (fun h177 => ?_)
          · exact absurd h177 (by decide)
          · refine s_iload_8 (pc := 180) dX9_evening_180 ?_
            refine s_goto (pc := 182) 187 dX9_evening_182 rfl ?_
            refine s_istore_7 (pc := 187) dX9_evening_187 (Nat.le_of_ble_eq_true rfl) rfl ?_
            refine s_iinc_8 (pc := 189) dX9_evening_189 (Nat.le_of_ble_eq_true rfl) rfl ?_
            refine s_goto (pc := 192) 135 dX9_evening_192 rfl ?_
            first
              | (refine s_le ?_ (ih (p - 1) (by omega) (by omega) (by omega))
                 rw [hup]
                 first
                   | (rw [if_pos ⟨by omega, by omega⟩]
                      exact ⟨Or.inr rfl, Or.inr rfl, Or.inr rfl, Or.inr rfl, Or.inr rfl, Or.inl rfl, Or.inr rfl, Or.inr rfl, Or.inr rfl, Or.inl rfl, trivial⟩
                      done)
                   | (rw [if_neg (fun q => by have := q.1; have := q.2; omega)]
                      exact ⟨Or.inr rfl, Or.inr rfl, Or.inr rfl, Or.inr rfl, Or.inr rfl, Or.inl rfl, Or.inr rfl, Or.inr rfl, Or.inr rfl, Or.inl rfl, trivial⟩))
theorem lp_X9_ev {κ : Mem} {z : Int} {μ : Mem} (hMμ : MR κ μ) (he : κ 124 0 = κ 129 0) : ∀ (f : Nat) (i : Int) (ν : Mem), (0 ≤ i) → (i ≤ κ 125 0) → (Fr [134] μ ν) → (ν 134 0 = (evN κ z i.toNat).2.2) → κ 125 0 - i < (f : Int) → AW kX9_evening 9 [some (.inr (.inr 9)), some (.inl (evN κ z i.toNat).1), some (.inl (evN κ z i.toNat).2.1), some (.inl i), none, none, none, none, none, none] [] ν (pI (fun y ν => (ev κ z).1 = y ∧ Fr [134] μ ν ∧ ν 134 0 = (ev κ z).2)) := by
  intro f
  induction f with
  | zero =>
    intro i ν h0 h1 hF hs hm
    exfalso; omega
  | succ f ih =>
    intro i ν h0 h1 hF hs hm
    have r129 := hMμ.1.1
    have r125 := hMμ.1.2.1
    have r126 := hMμ.1.2.2.1
    have r127 := hMμ.1.2.2.2.1
    have hM := hMμ.frB hF (by decide)
    have m125 : ν 125 0 = κ 125 0 := hM.2.2.1
    have hin := evN_in hMμ.1 (z := z) i.toNat
    have hsu := evN_succ (κ := κ) (z := z) h0
    refine s_iload_3 (pc := 9) dX9_evening_9 ?_
    refine s_aload_0 (pc := 10) dX9_evening_10 ?_
    refine gfX9_129 (pc := 11) dX9_evening_11 rfl ?_
    try simp (decide := true) only [wr_s, wr_n, wa_s, wa_n, mg_i, mg_o, if_true, eq_self, reduceIte]
    try rw [m125]
    try rw [m127]
    try rw [m126]
    try rw [m124]
    refine s_icmp_ge (pc := 14) 226 dX9_evening_14 rfl (by omega) (by omega) (fun h14 => ?_) (fun h14 => ?_)
    · refine s_iload_1 (pc := 226) dX9_evening_226 ?_
      refine s_ireturn (pc := 227) dX9_evening_227 rfl ?_
      cases (show i = κ 125 0 by omega)
      exact ⟨rfl, hF, hs⟩
    · refine s_iconst_0 (pc := 17) dX9_evening_17 ?_
      refine s_istore_4 (pc := 18) dX9_evening_18 (Nat.le_of_ble_eq_true rfl) rfl ?_
      refine s_iconst_0 (pc := 20) dX9_evening_20 ?_
      refine s_istore_5 (pc := 21) dX9_evening_21 (Nat.le_of_ble_eq_true rfl) rfl ?_
      refine s_le ?_ (lp_X9_evA (κ := κ) (o := (evN κ z i.toNat).1) (t := (evN κ z i.toNat).2.1) (i := i) (z := (evN κ z i.toNat).2.2) (μ := ν) hM (hM.2.2.2.2.2.2.2.2.1.trans he) (by omega) ?_ 5 0 ν (by omega) (by omega) Fr.rf hs (by omega))
      · exact ⟨Or.inr rfl, Or.inr rfl, Or.inr rfl, Or.inr rfl, Or.inr rfl, Or.inr rfl, Or.inl rfl, Or.inl rfl, Or.inl rfl, Or.inl rfl, trivial⟩
      · intro ν2 hF2 hs2
        refine s_iload_4 (pc := 72) dX9_evening_72 ?_
        have hM2 := hM.frB hF2 (by decide)
        have m127 : ν2 127 0 = κ 127 0 := hM2.2.2.2.2.1
        have m126 : ν2 126 0 = κ 126 0 := hM2.2.2.2.1
        have m124 : ν2 124 0 = κ 129 0 := hM2.2.2.2.2.2.2.2.2.1.trans he
        have hlg := lgN_in (κ := κ) (i := i) (z := (evN κ z i.toNat).2.2) (κ 129 0).toNat
        have hps := pw_small r129
        have hon := on_in (b := (lgN κ i (evN κ z i.toNat).2.2 (κ 129 0).toNat).1)
        have hli := lt_in (z := (lgN κ i (evN κ z i.toNat).2.2 (κ 129 0).toNat).2) (k := (on (lgN κ i (evN κ z i.toNat).2.2 (κ 129 0).toNat).1))
        refine cS1i (pc := 74) (Ky := kX9_ones) dX9_evening_74 rfl lnX9_203 okX9_ones ⟨Nat.le_of_ble_eq_true rfl, Nat.le_of_ble_eq_true rfl⟩ (Nat.le_of_ble_eq_true rfl) (c_X9_ones (by omega)) ?_
        rintro _ _ ⟨rfl, rfl⟩
        refine s_istore_5 (pc := 77) dX9_evening_77 (Nat.le_of_ble_eq_true rfl) rfl ?_
        refine s_iload_5 (pc := 79) dX9_evening_79 ?_
        refine s_iconst_1 (pc := 81) dX9_evening_81 ?_
        refine s_icmp_eq (pc := 82) 98 dX9_evening_82 rfl (by omega) (by omega) (fun h82 => ?_) (fun h82 => ?_)
        · have hst : stirs (κ 127 0) (on (lgN κ i (evN κ z i.toNat).2.2 (κ 129 0).toNat).1) := by omega
          refine s_iload_5 (pc := 98) dX9_evening_98 ?_
          refine s_iconst_1 (pc := 100) dX9_evening_100 ?_
          refine s_icmp_le (pc := 101) 121 dX9_evening_101 rfl (by omega) (by omega) (fun h101 => ?_) (fun h101 => ?_)
          · have hnd : ¬ draws (κ 127 0) (on (lgN κ i (evN κ z i.toNat).2.2 (κ 129 0).toNat).1) := by omega
            refine s_iconst_0 (pc := 121) dX9_evening_121 ?_
            first | refine s_valI (y := (if draws (κ 127 0) (on (lgN κ i (evN κ z i.toNat).2.2 (κ 129 0).toNat).1) then lt (lgN κ i (evN κ z i.toNat).2.2 (κ 129 0).toNat).2 (on (lgN κ i (evN κ z i.toNat).2.2 (κ 129 0).toNat).1) else 0)) (by rw [if_pos hd, hs2]) ?_ | refine s_valI (y := (if draws (κ 127 0) (on (lgN κ i (evN κ z i.toNat).2.2 (κ 129 0).toNat).1) then lt (lgN κ i (evN κ z i.toNat).2.2 (κ 129 0).toNat).2 (on (lgN κ i (evN κ z i.toNat).2.2 (κ 129 0).toNat).1) else 0)) (by rw [if_neg hnd]) ?_
            refine s_mem (ν := wr ν2 134 0 (if draws (κ 127 0) (on (lgN κ i (evN κ z i.toNat).2.2 (κ 129 0).toNat).1) then sd (lgN κ i (evN κ z i.toNat).2.2 (κ 129 0).toNat).2 else (lgN κ i (evN κ z i.toNat).2.2 (κ 129 0).toNat).2)) (by first | (rw [if_pos hd, hs2]; done) | (rw [if_neg hnd]; exact (wr_id hs2).symm)) ?_
            have hrr : 0 ≤ (if draws (κ 127 0) (on (lgN κ i (evN κ z i.toNat).2.2 (κ 129 0).toNat).1) then lt (lgN κ i (evN κ z i.toNat).2.2 (κ 129 0).toNat).2 (on (lgN κ i (evN κ z i.toNat).2.2 (κ 129 0).toNat).1) else 0) ∧ (if draws (κ 127 0) (on (lgN κ i (evN κ z i.toNat).2.2 (κ 129 0).toNat).1) then lt (lgN κ i (evN κ z i.toNat).2.2 (κ 129 0).toNat).2 (on (lgN κ i (evN κ z i.toNat).2.2 (κ 129 0).toNat).1) else 0) < 4 := by
              split
              · have := hli (by omega); omega
              · omega
            refine s_istore_6 (pc := 122) dX9_evening_122 (Nat.le_of_ble_eq_true rfl) rfl ?_
            refine s_iconst_m1 (pc := 124) dX9_evening_124 ?_
            refine s_istore_7 (pc := 125) dX9_evening_125 (Nat.le_of_ble_eq_true rfl) rfl ?_
            refine s_aload_0 (pc := 127) dX9_evening_127 ?_
            refine gfX9_126 (pc := 128) dX9_evening_128 rfl ?_
            try simp (decide := true) only [wr_s, wr_n, wa_s, wa_n, mg_i, mg_o, if_true, eq_self, reduceIte]
            try rw [m125]
            try rw [m127]
            try rw [m126]
            try rw [m124]
            refine s_iconst_1 (pc := 131) dX9_evening_131 ?_
            refine s_isub (pc := 132) dX9_evening_132 ?_
            refine s_istore_8 (pc := 133) dX9_evening_133 (Nat.le_of_ble_eq_true rfl) rfl ?_
            refine s_le ?_ (lp_X9_evB (o := (evN κ z i.toNat).1) (t := (evN κ z i.toNat).2.1) (i := i) (b := (lgN κ i (evN κ z i.toNat).2.2 (κ 129 0).toNat).1) (r := (if draws (κ 127 0) (on (lgN κ i (evN κ z i.toNat).2.2 (κ 129 0).toNat).1) then lt (lgN κ i (evN κ z i.toNat).2.2 (κ 129 0).toNat).2 (on (lgN κ i (evN κ z i.toNat).2.2 (κ 129 0).toNat).1) else 0)) (by omega) hrr ?_ 5 (κ 129 0 - 1) (by omega) (by omega) (by omega))
            · rw [tk_top r129 hlg]
              exact ⟨Or.inr rfl, Or.inr rfl, Or.inr rfl, Or.inr rfl, Or.inr rfl, Or.inl rfl, Or.inr rfl, Or.inr rfl, Or.inr rfl, Or.inl rfl, trivial⟩
            · have hs2c := hs2
              rw [evS, if_pos hst] at hsu
              have htk := tk_in (b := (lgN κ i (evN κ z i.toNat).2.2 (κ 129 0).toNat).1) (r := (if draws (κ 127 0) (on (lgN κ i (evN κ z i.toNat).2.2 (κ 129 0).toNat).1) then lt (lgN κ i (evN κ z i.toNat).2.2 (κ 129 0).toNat).2 (on (lgN κ i (evN κ z i.toNat).2.2 (κ 129 0).toNat).1) else 0)) (p := -1)
              refine s_iload_2 (pc := 195) dX9_evening_195 ?_
              refine s_if_eq (pc := 196) 203 dX9_evening_196 rfl (by omega) (fun h196 => ?_) (fun h196 => ?_)
              · rw [if_pos (by omega)] at hsu
                refine s_iload_7 (pc := 203) dX9_evening_203 ?_
                refine s_istore_1 (pc := 205) dX9_evening_205 (Nat.le_of_ble_eq_true rfl) rfl ?_
                refine s_aload_0 (pc := 206) dX9_evening_206 ?_
                refine gfX9_174 (pc := 207) dX9_evening_207 rfl ?_
                try simp (decide := true) only [wr_s, wr_n, wa_s, wa_n, mg_i, mg_o, if_true, eq_self, reduceIte]
                try rw [m126]
                refine s_iconst_1 (pc := 210) dX9_evening_210 ?_
                refine s_icmp_ne (pc := 211) 218 dX9_evening_211 rfl (by omega) (by omega) (fun h211 => ?_) (fun h211 => ?_)
                · rw [if_neg (show ¬ κ 126 0 = 1 from h211)] at hsu
                  refine s_iconst_0 (pc := 218) dX9_evening_218 ?_
                  refine s_istore_2 (pc := 219) dX9_evening_219 (Nat.le_of_ble_eq_true rfl) rfl ?_
                  refine s_iinc_3 (pc := 220) dX9_evening_220 (Nat.le_of_ble_eq_true rfl) rfl ?_
                  refine s_goto (pc := 223) 9 dX9_evening_223 rfl ?_
                  refine s_le ?_ (ih (i + 1) _ (by omega) (by omega) ((hF.tr hF2).wr (by decide)) (by rw [hsu, wr_s, if_pos rfl]) (by omega))
                  rw [hsu]
                  exact ⟨Or.inr rfl, Or.inr rfl, Or.inr rfl, Or.inr rfl, Or.inl rfl, Or.inl rfl, Or.inl rfl, Or.inl rfl, Or.inl rfl, Or.inl rfl, trivial⟩
                · rw [if_pos (show κ 126 0 = 1 from h211)] at hsu
                  refine s_iconst_1 (pc := 214) dX9_evening_214 ?_
                  refine s_goto (pc := 215) 219 dX9_evening_215 rfl ?_
                  refine s_istore_2 (pc := 219) dX9_evening_219 (Nat.le_of_ble_eq_true rfl) rfl ?_
                  refine s_iinc_3 (pc := 220) dX9_evening_220 (Nat.le_of_ble_eq_true rfl) rfl ?_
                  refine s_goto (pc := 223) 9 dX9_evening_223 rfl ?_
                  refine s_le ?_ (ih (i + 1) _ (by omega) (by omega) ((hF.tr hF2).wr (by decide)) (by rw [hsu, wr_s, if_pos rfl]) (by omega))
                  rw [hsu]
                  exact ⟨Or.inr rfl, Or.inr rfl, Or.inr rfl, Or.inr rfl, Or.inl rfl, Or.inl rfl, Or.inl rfl, Or.inl rfl, Or.inl rfl, Or.inl rfl, trivial⟩
              · rw [if_neg (by omega)] at hsu
                refine s_iload_1 (pc := 199) dX9_evening_199 ?_
                refine s_goto (pc := 200) 205 dX9_evening_200 rfl ?_
                refine s_istore_1 (pc := 205) dX9_evening_205 (Nat.le_of_ble_eq_true rfl) rfl ?_
                refine s_aload_0 (pc := 206) dX9_evening_206 ?_
                refine gfX9_174 (pc := 207) dX9_evening_207 rfl ?_
                try simp (decide := true) only [wr_s, wr_n, wa_s, wa_n, mg_i, mg_o, if_true, eq_self, reduceIte]
                try rw [m126]
                refine s_iconst_1 (pc := 210) dX9_evening_210 ?_
                refine s_icmp_ne (pc := 211) 218 dX9_evening_211 rfl (by omega) (by omega) (fun h211 => ?_) (fun h211 => ?_)
                · rw [if_neg (show ¬ κ 126 0 = 1 from h211)] at hsu
                  refine s_iconst_0 (pc := 218) dX9_evening_218 ?_
                  refine s_istore_2 (pc := 219) dX9_evening_219 (Nat.le_of_ble_eq_true rfl) rfl ?_
                  refine s_iinc_3 (pc := 220) dX9_evening_220 (Nat.le_of_ble_eq_true rfl) rfl ?_
                  refine s_goto (pc := 223) 9 dX9_evening_223 rfl ?_
                  refine s_le ?_ (ih (i + 1) _ (by omega) (by omega) ((hF.tr hF2).wr (by decide)) (by rw [hsu, wr_s, if_pos rfl]) (by omega))
                  rw [hsu]
                  exact ⟨Or.inr rfl, Or.inr rfl, Or.inr rfl, Or.inr rfl, Or.inl rfl, Or.inl rfl, Or.inl rfl, Or.inl rfl, Or.inl rfl, Or.inl rfl, trivial⟩
                · rw [if_pos (show κ 126 0 = 1 from h211)] at hsu
                  refine s_iconst_1 (pc := 214) dX9_evening_214 ?_
                  refine s_goto (pc := 215) 219 dX9_evening_215 rfl ?_
                  refine s_istore_2 (pc := 219) dX9_evening_219 (Nat.le_of_ble_eq_true rfl) rfl ?_
                  refine s_iinc_3 (pc := 220) dX9_evening_220 (Nat.le_of_ble_eq_true rfl) rfl ?_
                  refine s_goto (pc := 223) 9 dX9_evening_223 rfl ?_
                  refine s_le ?_ (ih (i + 1) _ (by omega) (by omega) ((hF.tr hF2).wr (by decide)) (by rw [hsu, wr_s, if_pos rfl]) (by omega))
                  rw [hsu]
                  exact ⟨Or.inr rfl, Or.inr rfl, Or.inr rfl, Or.inr rfl, Or.inl rfl, Or.inl rfl, Or.inl rfl, Or.inl rfl, Or.inl rfl, Or.inl rfl, trivial⟩
          · refine s_aload_0 (pc := 104) dX9_evening_104 ?_
            refine gfX9_177 (pc := 105) dX9_evening_105 rfl ?_
            try simp (decide := true) only [wr_s, wr_n, wa_s, wa_n, mg_i, mg_o, if_true, eq_self, reduceIte]
            try rw [m125]
            try rw [m127]
            try rw [m126]
            try rw [m124]
            refine s_iconst_2 (pc := 108) dX9_evening_108 ?_
            refine s_icmp_ne (pc := 109) 121 dX9_evening_109 rfl (by omega) (by omega) (fun h109 => ?_) (fun h109 => ?_)
            · have hnd : ¬ draws (κ 127 0) (on (lgN κ i (evN κ z i.toNat).2.2 (κ 129 0).toNat).1) := by omega
              refine s_iconst_0 (pc := 121) dX9_evening_121 ?_
              first | refine s_valI (y := (if draws (κ 127 0) (on (lgN κ i (evN κ z i.toNat).2.2 (κ 129 0).toNat).1) then lt (lgN κ i (evN κ z i.toNat).2.2 (κ 129 0).toNat).2 (on (lgN κ i (evN κ z i.toNat).2.2 (κ 129 0).toNat).1) else 0)) (by rw [if_pos hd, hs2]) ?_ | refine s_valI (y := (if draws (κ 127 0) (on (lgN κ i (evN κ z i.toNat).2.2 (κ 129 0).toNat).1) then lt (lgN κ i (evN κ z i.toNat).2.2 (κ 129 0).toNat).2 (on (lgN κ i (evN κ z i.toNat).2.2 (κ 129 0).toNat).1) else 0)) (by rw [if_neg hnd]) ?_
              refine s_mem (ν := wr ν2 134 0 (if draws (κ 127 0) (on (lgN κ i (evN κ z i.toNat).2.2 (κ 129 0).toNat).1) then sd (lgN κ i (evN κ z i.toNat).2.2 (κ 129 0).toNat).2 else (lgN κ i (evN κ z i.toNat).2.2 (κ 129 0).toNat).2)) (by first | (rw [if_pos hd, hs2]; done) | (rw [if_neg hnd]; exact (wr_id hs2).symm)) ?_
              have hrr : 0 ≤ (if draws (κ 127 0) (on (lgN κ i (evN κ z i.toNat).2.2 (κ 129 0).toNat).1) then lt (lgN κ i (evN κ z i.toNat).2.2 (κ 129 0).toNat).2 (on (lgN κ i (evN κ z i.toNat).2.2 (κ 129 0).toNat).1) else 0) ∧ (if draws (κ 127 0) (on (lgN κ i (evN κ z i.toNat).2.2 (κ 129 0).toNat).1) then lt (lgN κ i (evN κ z i.toNat).2.2 (κ 129 0).toNat).2 (on (lgN κ i (evN κ z i.toNat).2.2 (κ 129 0).toNat).1) else 0) < 4 := by
                split
                · have := hli (by omega); omega
                · omega
              refine s_istore_6 (pc := 122) dX9_evening_122 (Nat.le_of_ble_eq_true rfl) rfl ?_
              refine s_iconst_m1 (pc := 124) dX9_evening_124 ?_
              refine s_istore_7 (pc := 125) dX9_evening_125 (Nat.le_of_ble_eq_true rfl) rfl ?_
              refine s_aload_0 (pc := 127) dX9_evening_127 ?_
              refine gfX9_126 (pc := 128) dX9_evening_128 rfl ?_
              try simp (decide := true) only [wr_s, wr_n, wa_s, wa_n, mg_i, mg_o, if_true, eq_self, reduceIte]
              try rw [m125]
              try rw [m127]
              try rw [m126]
              try rw [m124]
              refine s_iconst_1 (pc := 131) dX9_evening_131 ?_
              refine s_isub (pc := 132) dX9_evening_132 ?_
              refine s_istore_8 (pc := 133) dX9_evening_133 (Nat.le_of_ble_eq_true rfl) rfl ?_
              refine s_le ?_ (lp_X9_evB (o := (evN κ z i.toNat).1) (t := (evN κ z i.toNat).2.1) (i := i) (b := (lgN κ i (evN κ z i.toNat).2.2 (κ 129 0).toNat).1) (r := (if draws (κ 127 0) (on (lgN κ i (evN κ z i.toNat).2.2 (κ 129 0).toNat).1) then lt (lgN κ i (evN κ z i.toNat).2.2 (κ 129 0).toNat).2 (on (lgN κ i (evN κ z i.toNat).2.2 (κ 129 0).toNat).1) else 0)) (by omega) hrr ?_ 5 (κ 129 0 - 1) (by omega) (by omega) (by omega))
              · rw [tk_top r129 hlg]
                exact ⟨Or.inr rfl, Or.inr rfl, Or.inr rfl, Or.inr rfl, Or.inr rfl, Or.inl rfl, Or.inr rfl, Or.inr rfl, Or.inr rfl, Or.inl rfl, trivial⟩
              · have hs2c := hs2
                rw [evS, if_pos hst] at hsu
                have htk := tk_in (b := (lgN κ i (evN κ z i.toNat).2.2 (κ 129 0).toNat).1) (r := (if draws (κ 127 0) (on (lgN κ i (evN κ z i.toNat).2.2 (κ 129 0).toNat).1) then lt (lgN κ i (evN κ z i.toNat).2.2 (κ 129 0).toNat).2 (on (lgN κ i (evN κ z i.toNat).2.2 (κ 129 0).toNat).1) else 0)) (p := -1)
                refine s_iload_2 (pc := 195) dX9_evening_195 ?_
                refine s_if_eq (pc := 196) 203 dX9_evening_196 rfl (by omega) (fun h196 => ?_) (fun h196 => ?_)
                · rw [if_pos (by omega)] at hsu
                  refine s_iload_7 (pc := 203) dX9_evening_203 ?_
                  refine s_istore_1 (pc := 205) dX9_evening_205 (Nat.le_of_ble_eq_true rfl) rfl ?_
                  refine s_aload_0 (pc := 206) dX9_evening_206 ?_
                  refine gfX9_174 (pc := 207) dX9_evening_207 rfl ?_
                  try simp (decide := true) only [wr_s, wr_n, wa_s, wa_n, mg_i, mg_o, if_true, eq_self, reduceIte]
                  try rw [m126]
                  refine s_iconst_1 (pc := 210) dX9_evening_210 ?_
                  refine s_icmp_ne (pc := 211) 218 dX9_evening_211 rfl (by omega) (by omega) (fun h211 => ?_) (fun h211 => ?_)
                  · rw [if_neg (show ¬ κ 126 0 = 1 from h211)] at hsu
                    refine s_iconst_0 (pc := 218) dX9_evening_218 ?_
                    refine s_istore_2 (pc := 219) dX9_evening_219 (Nat.le_of_ble_eq_true rfl) rfl ?_
                    refine s_iinc_3 (pc := 220) dX9_evening_220 (Nat.le_of_ble_eq_true rfl) rfl ?_
                    refine s_goto (pc := 223) 9 dX9_evening_223 rfl ?_
                    refine s_le ?_ (ih (i + 1) _ (by omega) (by omega) ((hF.tr hF2).wr (by decide)) (by rw [hsu, wr_s, if_pos rfl]) (by omega))
                    rw [hsu]
                    exact ⟨Or.inr rfl, Or.inr rfl, Or.inr rfl, Or.inr rfl, Or.inl rfl, Or.inl rfl, Or.inl rfl, Or.inl rfl, Or.inl rfl, Or.inl rfl, trivial⟩
                  · rw [if_pos (show κ 126 0 = 1 from h211)] at hsu
                    refine s_iconst_1 (pc := 214) dX9_evening_214 ?_
                    refine s_goto (pc := 215) 219 dX9_evening_215 rfl ?_
                    refine s_istore_2 (pc := 219) dX9_evening_219 (Nat.le_of_ble_eq_true rfl) rfl ?_
                    refine s_iinc_3 (pc := 220) dX9_evening_220 (Nat.le_of_ble_eq_true rfl) rfl ?_
                    refine s_goto (pc := 223) 9 dX9_evening_223 rfl ?_
                    refine s_le ?_ (ih (i + 1) _ (by omega) (by omega) ((hF.tr hF2).wr (by decide)) (by rw [hsu, wr_s, if_pos rfl]) (by omega))
                    rw [hsu]
                    exact ⟨Or.inr rfl, Or.inr rfl, Or.inr rfl, Or.inr rfl, Or.inl rfl, Or.inl rfl, Or.inl rfl, Or.inl rfl, Or.inl rfl, Or.inl rfl, trivial⟩
                · rw [if_neg (by omega)] at hsu
                  refine s_iload_1 (pc := 199) dX9_evening_199 ?_
                  refine s_goto (pc := 200) 205 dX9_evening_200 rfl ?_
                  refine s_istore_1 (pc := 205) dX9_evening_205 (Nat.le_of_ble_eq_true rfl) rfl ?_
                  refine s_aload_0 (pc := 206) dX9_evening_206 ?_
                  refine gfX9_174 (pc := 207) dX9_evening_207 rfl ?_
                  try simp (decide := true) only [wr_s, wr_n, wa_s, wa_n, mg_i, mg_o, if_true, eq_self, reduceIte]
                  try rw [m126]
                  refine s_iconst_1 (pc := 210) dX9_evening_210 ?_
                  refine s_icmp_ne (pc := 211) 218 dX9_evening_211 rfl (by omega) (by omega) (fun h211 => ?_) (fun h211 => ?_)
                  · rw [if_neg (show ¬ κ 126 0 = 1 from h211)] at hsu
                    refine s_iconst_0 (pc := 218) dX9_evening_218 ?_
                    refine s_istore_2 (pc := 219) dX9_evening_219 (Nat.le_of_ble_eq_true rfl) rfl ?_
                    refine s_iinc_3 (pc := 220) dX9_evening_220 (Nat.le_of_ble_eq_true rfl) rfl ?_
                    refine s_goto (pc := 223) 9 dX9_evening_223 rfl ?_
                    refine s_le ?_ (ih (i + 1) _ (by omega) (by omega) ((hF.tr hF2).wr (by decide)) (by rw [hsu, wr_s, if_pos rfl]) (by omega))
                    rw [hsu]
                    exact ⟨Or.inr rfl, Or.inr rfl, Or.inr rfl, Or.inr rfl, Or.inl rfl, Or.inl rfl, Or.inl rfl, Or.inl rfl, Or.inl rfl, Or.inl rfl, trivial⟩
                  · rw [if_pos (show κ 126 0 = 1 from h211)] at hsu
                    refine s_iconst_1 (pc := 214) dX9_evening_214 ?_
                    refine s_goto (pc := 215) 219 dX9_evening_215 rfl ?_
                    refine s_istore_2 (pc := 219) dX9_evening_219 (Nat.le_of_ble_eq_true rfl) rfl ?_
                    refine s_iinc_3 (pc := 220) dX9_evening_220 (Nat.le_of_ble_eq_true rfl) rfl ?_
                    refine s_goto (pc := 223) 9 dX9_evening_223 rfl ?_
                    refine s_le ?_ (ih (i + 1) _ (by omega) (by omega) ((hF.tr hF2).wr (by decide)) (by rw [hsu, wr_s, if_pos rfl]) (by omega))
                    rw [hsu]
                    exact ⟨Or.inr rfl, Or.inr rfl, Or.inr rfl, Or.inr rfl, Or.inl rfl, Or.inl rfl, Or.inl rfl, Or.inl rfl, Or.inl rfl, Or.inl rfl, trivial⟩
            · have hd : draws (κ 127 0) (on (lgN κ i (evN κ z i.toNat).2.2 (κ 129 0).toNat).1) := by omega
              refine s_aload_0 (pc := 112) dX9_evening_112 ?_
              refine s_iload_5 (pc := 113) dX9_evening_113 ?_
              refine cV1i (pc := 115) (Ky := kX9_lot) dX9_evening_115 rfl lnX9_321 okX9_lot ⟨9, TX9, 40, rfl, rfl⟩ ⟨Nat.le_of_ble_eq_true rfl, Nat.le_of_ble_eq_true rfl⟩ (Nat.le_of_ble_eq_true rfl) (c_X9_lot (by omega)) ?_
              rintro _ _ ⟨rfl, rfl⟩
              refine s_goto (pc := 118) 122 dX9_evening_118 rfl ?_
              first | refine s_valI (y := (if draws (κ 127 0) (on (lgN κ i (evN κ z i.toNat).2.2 (κ 129 0).toNat).1) then lt (lgN κ i (evN κ z i.toNat).2.2 (κ 129 0).toNat).2 (on (lgN κ i (evN κ z i.toNat).2.2 (κ 129 0).toNat).1) else 0)) (by rw [if_pos hd, hs2]) ?_ | refine s_valI (y := (if draws (κ 127 0) (on (lgN κ i (evN κ z i.toNat).2.2 (κ 129 0).toNat).1) then lt (lgN κ i (evN κ z i.toNat).2.2 (κ 129 0).toNat).2 (on (lgN κ i (evN κ z i.toNat).2.2 (κ 129 0).toNat).1) else 0)) (by rw [if_neg hnd]) ?_
              refine s_mem (ν := wr ν2 134 0 (if draws (κ 127 0) (on (lgN κ i (evN κ z i.toNat).2.2 (κ 129 0).toNat).1) then sd (lgN κ i (evN κ z i.toNat).2.2 (κ 129 0).toNat).2 else (lgN κ i (evN κ z i.toNat).2.2 (κ 129 0).toNat).2)) (by first | (rw [if_pos hd, hs2]; done) | (rw [if_neg hnd]; exact (wr_id hs2).symm)) ?_
              have hrr : 0 ≤ (if draws (κ 127 0) (on (lgN κ i (evN κ z i.toNat).2.2 (κ 129 0).toNat).1) then lt (lgN κ i (evN κ z i.toNat).2.2 (κ 129 0).toNat).2 (on (lgN κ i (evN κ z i.toNat).2.2 (κ 129 0).toNat).1) else 0) ∧ (if draws (κ 127 0) (on (lgN κ i (evN κ z i.toNat).2.2 (κ 129 0).toNat).1) then lt (lgN κ i (evN κ z i.toNat).2.2 (κ 129 0).toNat).2 (on (lgN κ i (evN κ z i.toNat).2.2 (κ 129 0).toNat).1) else 0) < 4 := by
                split
                · have := hli (by omega); omega
                · omega
              refine s_istore_6 (pc := 122) dX9_evening_122 (Nat.le_of_ble_eq_true rfl) rfl ?_
              refine s_iconst_m1 (pc := 124) dX9_evening_124 ?_
              refine s_istore_7 (pc := 125) dX9_evening_125 (Nat.le_of_ble_eq_true rfl) rfl ?_
              refine s_aload_0 (pc := 127) dX9_evening_127 ?_
              refine gfX9_126 (pc := 128) dX9_evening_128 rfl ?_
              try simp (decide := true) only [wr_s, wr_n, wa_s, wa_n, mg_i, mg_o, if_true, eq_self, reduceIte]
              try rw [m125]
              try rw [m127]
              try rw [m126]
              try rw [m124]
              refine s_iconst_1 (pc := 131) dX9_evening_131 ?_
              refine s_isub (pc := 132) dX9_evening_132 ?_
              refine s_istore_8 (pc := 133) dX9_evening_133 (Nat.le_of_ble_eq_true rfl) rfl ?_
              refine s_le ?_ (lp_X9_evB (o := (evN κ z i.toNat).1) (t := (evN κ z i.toNat).2.1) (i := i) (b := (lgN κ i (evN κ z i.toNat).2.2 (κ 129 0).toNat).1) (r := (if draws (κ 127 0) (on (lgN κ i (evN κ z i.toNat).2.2 (κ 129 0).toNat).1) then lt (lgN κ i (evN κ z i.toNat).2.2 (κ 129 0).toNat).2 (on (lgN κ i (evN κ z i.toNat).2.2 (κ 129 0).toNat).1) else 0)) (by omega) hrr ?_ 5 (κ 129 0 - 1) (by omega) (by omega) (by omega))
              · rw [tk_top r129 hlg]
                exact ⟨Or.inr rfl, Or.inr rfl, Or.inr rfl, Or.inr rfl, Or.inr rfl, Or.inl rfl, Or.inr rfl, Or.inr rfl, Or.inr rfl, Or.inl rfl, trivial⟩
              · have hs2c := hs2
                rw [evS, if_pos hst] at hsu
                have htk := tk_in (b := (lgN κ i (evN κ z i.toNat).2.2 (κ 129 0).toNat).1) (r := (if draws (κ 127 0) (on (lgN κ i (evN κ z i.toNat).2.2 (κ 129 0).toNat).1) then lt (lgN κ i (evN κ z i.toNat).2.2 (κ 129 0).toNat).2 (on (lgN κ i (evN κ z i.toNat).2.2 (κ 129 0).toNat).1) else 0)) (p := -1)
                refine s_iload_2 (pc := 195) dX9_evening_195 ?_
                refine s_if_eq (pc := 196) 203 dX9_evening_196 rfl (by omega) (fun h196 => ?_) (fun h196 => ?_)
                · rw [if_pos (by omega)] at hsu
                  refine s_iload_7 (pc := 203) dX9_evening_203 ?_
                  refine s_istore_1 (pc := 205) dX9_evening_205 (Nat.le_of_ble_eq_true rfl) rfl ?_
                  refine s_aload_0 (pc := 206) dX9_evening_206 ?_
                  refine gfX9_174 (pc := 207) dX9_evening_207 rfl ?_
                  try simp (decide := true) only [wr_s, wr_n, wa_s, wa_n, mg_i, mg_o, if_true, eq_self, reduceIte]
                  try rw [m126]
                  refine s_iconst_1 (pc := 210) dX9_evening_210 ?_
                  refine s_icmp_ne (pc := 211) 218 dX9_evening_211 rfl (by omega) (by omega) (fun h211 => ?_) (fun h211 => ?_)
                  · rw [if_neg (show ¬ κ 126 0 = 1 from h211)] at hsu
                    refine s_iconst_0 (pc := 218) dX9_evening_218 ?_
                    refine s_istore_2 (pc := 219) dX9_evening_219 (Nat.le_of_ble_eq_true rfl) rfl ?_
                    refine s_iinc_3 (pc := 220) dX9_evening_220 (Nat.le_of_ble_eq_true rfl) rfl ?_
                    refine s_goto (pc := 223) 9 dX9_evening_223 rfl ?_
                    refine s_le ?_ (ih (i + 1) _ (by omega) (by omega) ((hF.tr hF2).wr (by decide)) (by rw [hsu, wr_s, if_pos rfl]) (by omega))
                    rw [hsu]
                    exact ⟨Or.inr rfl, Or.inr rfl, Or.inr rfl, Or.inr rfl, Or.inl rfl, Or.inl rfl, Or.inl rfl, Or.inl rfl, Or.inl rfl, Or.inl rfl, trivial⟩
                  · rw [if_pos (show κ 126 0 = 1 from h211)] at hsu
                    refine s_iconst_1 (pc := 214) dX9_evening_214 ?_
                    refine s_goto (pc := 215) 219 dX9_evening_215 rfl ?_
                    refine s_istore_2 (pc := 219) dX9_evening_219 (Nat.le_of_ble_eq_true rfl) rfl ?_
                    refine s_iinc_3 (pc := 220) dX9_evening_220 (Nat.le_of_ble_eq_true rfl) rfl ?_
                    refine s_goto (pc := 223) 9 dX9_evening_223 rfl ?_
                    refine s_le ?_ (ih (i + 1) _ (by omega) (by omega) ((hF.tr hF2).wr (by decide)) (by rw [hsu, wr_s, if_pos rfl]) (by omega))
                    rw [hsu]
                    exact ⟨Or.inr rfl, Or.inr rfl, Or.inr rfl, Or.inr rfl, Or.inl rfl, Or.inl rfl, Or.inl rfl, Or.inl rfl, Or.inl rfl, Or.inl rfl, trivial⟩
                · rw [if_neg (by omega)] at hsu
                  refine s_iload_1 (pc := 199) dX9_evening_199 ?_
                  refine s_goto (pc := 200) 205 dX9_evening_200 rfl ?_
                  refine s_istore_1 (pc := 205) dX9_evening_205 (Nat.le_of_ble_eq_true rfl) rfl ?_
                  refine s_aload_0 (pc := 206) dX9_evening_206 ?_
                  refine gfX9_174 (pc := 207) dX9_evening_207 rfl ?_
                  try simp (decide := true) only [wr_s, wr_n, wa_s, wa_n, mg_i, mg_o, if_true, eq_self, reduceIte]
                  try rw [m126]
                  refine s_iconst_1 (pc := 210) dX9_evening_210 ?_
                  refine s_icmp_ne (pc := 211) 218 dX9_evening_211 rfl (by omega) (by omega) (fun h211 => ?_) (fun h211 => ?_)
                  · rw [if_neg (show ¬ κ 126 0 = 1 from h211)] at hsu
                    refine s_iconst_0 (pc := 218) dX9_evening_218 ?_
                    refine s_istore_2 (pc := 219) dX9_evening_219 (Nat.le_of_ble_eq_true rfl) rfl ?_
                    refine s_iinc_3 (pc := 220) dX9_evening_220 (Nat.le_of_ble_eq_true rfl) rfl ?_
                    refine s_goto (pc := 223) 9 dX9_evening_223 rfl ?_
                    refine s_le ?_ (ih (i + 1) _ (by omega) (by omega) ((hF.tr hF2).wr (by decide)) (by rw [hsu, wr_s, if_pos rfl]) (by omega))
                    rw [hsu]
                    exact ⟨Or.inr rfl, Or.inr rfl, Or.inr rfl, Or.inr rfl, Or.inl rfl, Or.inl rfl, Or.inl rfl, Or.inl rfl, Or.inl rfl, Or.inl rfl, trivial⟩
                  · rw [if_pos (show κ 126 0 = 1 from h211)] at hsu
                    refine s_iconst_1 (pc := 214) dX9_evening_214 ?_
                    refine s_goto (pc := 215) 219 dX9_evening_215 rfl ?_
                    refine s_istore_2 (pc := 219) dX9_evening_219 (Nat.le_of_ble_eq_true rfl) rfl ?_
                    refine s_iinc_3 (pc := 220) dX9_evening_220 (Nat.le_of_ble_eq_true rfl) rfl ?_
                    refine s_goto (pc := 223) 9 dX9_evening_223 rfl ?_
                    refine s_le ?_ (ih (i + 1) _ (by omega) (by omega) ((hF.tr hF2).wr (by decide)) (by rw [hsu, wr_s, if_pos rfl]) (by omega))
                    rw [hsu]
                    exact ⟨Or.inr rfl, Or.inr rfl, Or.inr rfl, Or.inr rfl, Or.inl rfl, Or.inl rfl, Or.inl rfl, Or.inl rfl, Or.inl rfl, Or.inl rfl, trivial⟩
        · refine s_iload_5 (pc := 85) dX9_evening_85 ?_
          refine s_iconst_1 (pc := 87) dX9_evening_87 ?_
          refine s_icmp_le (pc := 88) 220 dX9_evening_88 rfl (by omega) (by omega) (fun h88 => ?_) (fun h88 => ?_)
          · have hns : ¬ stirs (κ 127 0) (on (lgN κ i (evN κ z i.toNat).2.2 (κ 129 0).toNat).1) := by omega
            refine s_iinc_3 (pc := 220) dX9_evening_220 (Nat.le_of_ble_eq_true rfl) rfl ?_
            refine s_goto (pc := 223) 9 dX9_evening_223 rfl ?_
            rw [evS, if_neg hns] at hsu
            refine s_le ?_ (ih (i + 1) ν2 (by omega) (by omega) (hF.tr hF2) (by rw [hsu]; exact hs2) (by omega))
            rw [hsu]
            exact ⟨Or.inr rfl, Or.inr rfl, Or.inr rfl, Or.inr rfl, Or.inl rfl, Or.inl rfl, Or.inl rfl, Or.inl rfl, Or.inl rfl, Or.inl rfl, trivial⟩
          · refine s_aload_0 (pc := 91) dX9_evening_91 ?_
            refine gfX9_177 (pc := 92) dX9_evening_92 rfl ?_
            try simp (decide := true) only [wr_s, wr_n, wa_s, wa_n, mg_i, mg_o, if_true, eq_self, reduceIte]
            try rw [m125]
            try rw [m127]
            try rw [m126]
            try rw [m124]
            refine s_if_le (pc := 95) 220 dX9_evening_95 rfl (by omega) (fun h95 => ?_) (fun h95 => ?_)
            · have hns : ¬ stirs (κ 127 0) (on (lgN κ i (evN κ z i.toNat).2.2 (κ 129 0).toNat).1) := by omega
              refine s_iinc_3 (pc := 220) dX9_evening_220 (Nat.le_of_ble_eq_true rfl) rfl ?_
              refine s_goto (pc := 223) 9 dX9_evening_223 rfl ?_
              rw [evS, if_neg hns] at hsu
              refine s_le ?_ (ih (i + 1) ν2 (by omega) (by omega) (hF.tr hF2) (by rw [hsu]; exact hs2) (by omega))
              rw [hsu]
              exact ⟨Or.inr rfl, Or.inr rfl, Or.inr rfl, Or.inr rfl, Or.inl rfl, Or.inl rfl, Or.inl rfl, Or.inl rfl, Or.inl rfl, Or.inl rfl, trivial⟩
            · have hst : stirs (κ 127 0) (on (lgN κ i (evN κ z i.toNat).2.2 (κ 129 0).toNat).1) := by omega
              refine s_iload_5 (pc := 98) dX9_evening_98 ?_
              refine s_iconst_1 (pc := 100) dX9_evening_100 ?_
              refine s_icmp_le (pc := 101) 121 dX9_evening_101 rfl (by omega) (by omega) (fun h101 => ?_) (fun h101 => ?_)
              · have hnd : ¬ draws (κ 127 0) (on (lgN κ i (evN κ z i.toNat).2.2 (κ 129 0).toNat).1) := by omega
                refine s_iconst_0 (pc := 121) dX9_evening_121 ?_
                first | refine s_valI (y := (if draws (κ 127 0) (on (lgN κ i (evN κ z i.toNat).2.2 (κ 129 0).toNat).1) then lt (lgN κ i (evN κ z i.toNat).2.2 (κ 129 0).toNat).2 (on (lgN κ i (evN κ z i.toNat).2.2 (κ 129 0).toNat).1) else 0)) (by rw [if_pos hd, hs2]) ?_ | refine s_valI (y := (if draws (κ 127 0) (on (lgN κ i (evN κ z i.toNat).2.2 (κ 129 0).toNat).1) then lt (lgN κ i (evN κ z i.toNat).2.2 (κ 129 0).toNat).2 (on (lgN κ i (evN κ z i.toNat).2.2 (κ 129 0).toNat).1) else 0)) (by rw [if_neg hnd]) ?_
                refine s_mem (ν := wr ν2 134 0 (if draws (κ 127 0) (on (lgN κ i (evN κ z i.toNat).2.2 (κ 129 0).toNat).1) then sd (lgN κ i (evN κ z i.toNat).2.2 (κ 129 0).toNat).2 else (lgN κ i (evN κ z i.toNat).2.2 (κ 129 0).toNat).2)) (by first | (rw [if_pos hd, hs2]; done) | (rw [if_neg hnd]; exact (wr_id hs2).symm)) ?_
                have hrr : 0 ≤ (if draws (κ 127 0) (on (lgN κ i (evN κ z i.toNat).2.2 (κ 129 0).toNat).1) then lt (lgN κ i (evN κ z i.toNat).2.2 (κ 129 0).toNat).2 (on (lgN κ i (evN κ z i.toNat).2.2 (κ 129 0).toNat).1) else 0) ∧ (if draws (κ 127 0) (on (lgN κ i (evN κ z i.toNat).2.2 (κ 129 0).toNat).1) then lt (lgN κ i (evN κ z i.toNat).2.2 (κ 129 0).toNat).2 (on (lgN κ i (evN κ z i.toNat).2.2 (κ 129 0).toNat).1) else 0) < 4 := by
                  split
                  · have := hli (by omega); omega
                  · omega
                refine s_istore_6 (pc := 122) dX9_evening_122 (Nat.le_of_ble_eq_true rfl) rfl ?_
                refine s_iconst_m1 (pc := 124) dX9_evening_124 ?_
                refine s_istore_7 (pc := 125) dX9_evening_125 (Nat.le_of_ble_eq_true rfl) rfl ?_
                refine s_aload_0 (pc := 127) dX9_evening_127 ?_
                refine gfX9_126 (pc := 128) dX9_evening_128 rfl ?_
                try simp (decide := true) only [wr_s, wr_n, wa_s, wa_n, mg_i, mg_o, if_true, eq_self, reduceIte]
                try rw [m125]
                try rw [m127]
                try rw [m126]
                try rw [m124]
                refine s_iconst_1 (pc := 131) dX9_evening_131 ?_
                refine s_isub (pc := 132) dX9_evening_132 ?_
                refine s_istore_8 (pc := 133) dX9_evening_133 (Nat.le_of_ble_eq_true rfl) rfl ?_
                refine s_le ?_ (lp_X9_evB (o := (evN κ z i.toNat).1) (t := (evN κ z i.toNat).2.1) (i := i) (b := (lgN κ i (evN κ z i.toNat).2.2 (κ 129 0).toNat).1) (r := (if draws (κ 127 0) (on (lgN κ i (evN κ z i.toNat).2.2 (κ 129 0).toNat).1) then lt (lgN κ i (evN κ z i.toNat).2.2 (κ 129 0).toNat).2 (on (lgN κ i (evN κ z i.toNat).2.2 (κ 129 0).toNat).1) else 0)) (by omega) hrr ?_ 5 (κ 129 0 - 1) (by omega) (by omega) (by omega))
                · rw [tk_top r129 hlg]
                  exact ⟨Or.inr rfl, Or.inr rfl, Or.inr rfl, Or.inr rfl, Or.inr rfl, Or.inl rfl, Or.inr rfl, Or.inr rfl, Or.inr rfl, Or.inl rfl, trivial⟩
                · have hs2c := hs2
                  rw [evS, if_pos hst] at hsu
                  have htk := tk_in (b := (lgN κ i (evN κ z i.toNat).2.2 (κ 129 0).toNat).1) (r := (if draws (κ 127 0) (on (lgN κ i (evN κ z i.toNat).2.2 (κ 129 0).toNat).1) then lt (lgN κ i (evN κ z i.toNat).2.2 (κ 129 0).toNat).2 (on (lgN κ i (evN κ z i.toNat).2.2 (κ 129 0).toNat).1) else 0)) (p := -1)
                  refine s_iload_2 (pc := 195) dX9_evening_195 ?_
                  refine s_if_eq (pc := 196) 203 dX9_evening_196 rfl (by omega) (fun h196 => ?_) (fun h196 => ?_)
                  · rw [if_pos (by omega)] at hsu
                    refine s_iload_7 (pc := 203) dX9_evening_203 ?_
                    refine s_istore_1 (pc := 205) dX9_evening_205 (Nat.le_of_ble_eq_true rfl) rfl ?_
                    refine s_aload_0 (pc := 206) dX9_evening_206 ?_
                    refine gfX9_174 (pc := 207) dX9_evening_207 rfl ?_
                    try simp (decide := true) only [wr_s, wr_n, wa_s, wa_n, mg_i, mg_o, if_true, eq_self, reduceIte]
                    try rw [m126]
                    refine s_iconst_1 (pc := 210) dX9_evening_210 ?_
                    refine s_icmp_ne (pc := 211) 218 dX9_evening_211 rfl (by omega) (by omega) (fun h211 => ?_) (fun h211 => ?_)
                    · rw [if_neg (show ¬ κ 126 0 = 1 from h211)] at hsu
                      refine s_iconst_0 (pc := 218) dX9_evening_218 ?_
                      refine s_istore_2 (pc := 219) dX9_evening_219 (Nat.le_of_ble_eq_true rfl) rfl ?_
                      refine s_iinc_3 (pc := 220) dX9_evening_220 (Nat.le_of_ble_eq_true rfl) rfl ?_
                      refine s_goto (pc := 223) 9 dX9_evening_223 rfl ?_
                      refine s_le ?_ (ih (i + 1) _ (by omega) (by omega) ((hF.tr hF2).wr (by decide)) (by rw [hsu, wr_s, if_pos rfl]) (by omega))
                      rw [hsu]
                      exact ⟨Or.inr rfl, Or.inr rfl, Or.inr rfl, Or.inr rfl, Or.inl rfl, Or.inl rfl, Or.inl rfl, Or.inl rfl, Or.inl rfl, Or.inl rfl, trivial⟩
                    · rw [if_pos (show κ 126 0 = 1 from h211)] at hsu
                      refine s_iconst_1 (pc := 214) dX9_evening_214 ?_
                      refine s_goto (pc := 215) 219 dX9_evening_215 rfl ?_
                      refine s_istore_2 (pc := 219) dX9_evening_219 (Nat.le_of_ble_eq_true rfl) rfl ?_
                      refine s_iinc_3 (pc := 220) dX9_evening_220 (Nat.le_of_ble_eq_true rfl) rfl ?_
                      refine s_goto (pc := 223) 9 dX9_evening_223 rfl ?_
                      refine s_le ?_ (ih (i + 1) _ (by omega) (by omega) ((hF.tr hF2).wr (by decide)) (by rw [hsu, wr_s, if_pos rfl]) (by omega))
                      rw [hsu]
                      exact ⟨Or.inr rfl, Or.inr rfl, Or.inr rfl, Or.inr rfl, Or.inl rfl, Or.inl rfl, Or.inl rfl, Or.inl rfl, Or.inl rfl, Or.inl rfl, trivial⟩
                  · rw [if_neg (by omega)] at hsu
                    refine s_iload_1 (pc := 199) dX9_evening_199 ?_
                    refine s_goto (pc := 200) 205 dX9_evening_200 rfl ?_
                    refine s_istore_1 (pc := 205) dX9_evening_205 (Nat.le_of_ble_eq_true rfl) rfl ?_
                    refine s_aload_0 (pc := 206) dX9_evening_206 ?_
                    refine gfX9_174 (pc := 207) dX9_evening_207 rfl ?_
                    try simp (decide := true) only [wr_s, wr_n, wa_s, wa_n, mg_i, mg_o, if_true, eq_self, reduceIte]
                    try rw [m126]
                    refine s_iconst_1 (pc := 210) dX9_evening_210 ?_
                    refine s_icmp_ne (pc := 211) 218 dX9_evening_211 rfl (by omega) (by omega) (fun h211 => ?_) (fun h211 => ?_)
                    · rw [if_neg (show ¬ κ 126 0 = 1 from h211)] at hsu
                      refine s_iconst_0 (pc := 218) dX9_evening_218 ?_
                      refine s_istore_2 (pc := 219) dX9_evening_219 (Nat.le_of_ble_eq_true rfl) rfl ?_
                      refine s_iinc_3 (pc := 220) dX9_evening_220 (Nat.le_of_ble_eq_true rfl) rfl ?_
                      refine s_goto (pc := 223) 9 dX9_evening_223 rfl ?_
                      refine s_le ?_ (ih (i + 1) _ (by omega) (by omega) ((hF.tr hF2).wr (by decide)) (by rw [hsu, wr_s, if_pos rfl]) (by omega))
                      rw [hsu]
                      exact ⟨Or.inr rfl, Or.inr rfl, Or.inr rfl, Or.inr rfl, Or.inl rfl, Or.inl rfl, Or.inl rfl, Or.inl rfl, Or.inl rfl, Or.inl rfl, trivial⟩
                    · rw [if_pos (show κ 126 0 = 1 from h211)] at hsu
                      refine s_iconst_1 (pc := 214) dX9_evening_214 ?_
                      refine s_goto (pc := 215) 219 dX9_evening_215 rfl ?_
                      refine s_istore_2 (pc := 219) dX9_evening_219 (Nat.le_of_ble_eq_true rfl) rfl ?_
                      refine s_iinc_3 (pc := 220) dX9_evening_220 (Nat.le_of_ble_eq_true rfl) rfl ?_
                      refine s_goto (pc := 223) 9 dX9_evening_223 rfl ?_
                      refine s_le ?_ (ih (i + 1) _ (by omega) (by omega) ((hF.tr hF2).wr (by decide)) (by rw [hsu, wr_s, if_pos rfl]) (by omega))
                      rw [hsu]
                      exact ⟨Or.inr rfl, Or.inr rfl, Or.inr rfl, Or.inr rfl, Or.inl rfl, Or.inl rfl, Or.inl rfl, Or.inl rfl, Or.inl rfl, Or.inl rfl, trivial⟩
              · refine s_aload_0 (pc := 104) dX9_evening_104 ?_
                refine gfX9_177 (pc := 105) dX9_evening_105 rfl ?_
                try simp (decide := true) only [wr_s, wr_n, wa_s, wa_n, mg_i, mg_o, if_true, eq_self, reduceIte]
                try rw [m125]
                try rw [m127]
                try rw [m126]
                try rw [m124]
                refine s_iconst_2 (pc := 108) dX9_evening_108 ?_
                refine s_icmp_ne (pc := 109) 121 dX9_evening_109 rfl (by omega) (by omega) (fun h109 => ?_) (fun h109 => ?_)
                · have hnd : ¬ draws (κ 127 0) (on (lgN κ i (evN κ z i.toNat).2.2 (κ 129 0).toNat).1) := by omega
                  refine s_iconst_0 (pc := 121) dX9_evening_121 ?_
                  first | refine s_valI (y := (if draws (κ 127 0) (on (lgN κ i (evN κ z i.toNat).2.2 (κ 129 0).toNat).1) then lt (lgN κ i (evN κ z i.toNat).2.2 (κ 129 0).toNat).2 (on (lgN κ i (evN κ z i.toNat).2.2 (κ 129 0).toNat).1) else 0)) (by rw [if_pos hd, hs2]) ?_ | refine s_valI (y := (if draws (κ 127 0) (on (lgN κ i (evN κ z i.toNat).2.2 (κ 129 0).toNat).1) then lt (lgN κ i (evN κ z i.toNat).2.2 (κ 129 0).toNat).2 (on (lgN κ i (evN κ z i.toNat).2.2 (κ 129 0).toNat).1) else 0)) (by rw [if_neg hnd]) ?_
                  refine s_mem (ν := wr ν2 134 0 (if draws (κ 127 0) (on (lgN κ i (evN κ z i.toNat).2.2 (κ 129 0).toNat).1) then sd (lgN κ i (evN κ z i.toNat).2.2 (κ 129 0).toNat).2 else (lgN κ i (evN κ z i.toNat).2.2 (κ 129 0).toNat).2)) (by first | (rw [if_pos hd, hs2]; done) | (rw [if_neg hnd]; exact (wr_id hs2).symm)) ?_
                  have hrr : 0 ≤ (if draws (κ 127 0) (on (lgN κ i (evN κ z i.toNat).2.2 (κ 129 0).toNat).1) then lt (lgN κ i (evN κ z i.toNat).2.2 (κ 129 0).toNat).2 (on (lgN κ i (evN κ z i.toNat).2.2 (κ 129 0).toNat).1) else 0) ∧ (if draws (κ 127 0) (on (lgN κ i (evN κ z i.toNat).2.2 (κ 129 0).toNat).1) then lt (lgN κ i (evN κ z i.toNat).2.2 (κ 129 0).toNat).2 (on (lgN κ i (evN κ z i.toNat).2.2 (κ 129 0).toNat).1) else 0) < 4 := by
                    split
                    · have := hli (by omega); omega
                    · omega
                  refine s_istore_6 (pc := 122) dX9_evening_122 (Nat.le_of_ble_eq_true rfl) rfl ?_
                  refine s_iconst_m1 (pc := 124) dX9_evening_124 ?_
                  refine s_istore_7 (pc := 125) dX9_evening_125 (Nat.le_of_ble_eq_true rfl) rfl ?_
                  refine s_aload_0 (pc := 127) dX9_evening_127 ?_
                  refine gfX9_126 (pc := 128) dX9_evening_128 rfl ?_
                  try simp (decide := true) only [wr_s, wr_n, wa_s, wa_n, mg_i, mg_o, if_true, eq_self, reduceIte]
                  try rw [m125]
                  try rw [m127]
                  try rw [m126]
                  try rw [m124]
                  refine s_iconst_1 (pc := 131) dX9_evening_131 ?_
                  refine s_isub (pc := 132) dX9_evening_132 ?_
                  refine s_istore_8 (pc := 133) dX9_evening_133 (Nat.le_of_ble_eq_true rfl) rfl ?_
                  refine s_le ?_ (lp_X9_evB (o := (evN κ z i.toNat).1) (t := (evN κ z i.toNat).2.1) (i := i) (b := (lgN κ i (evN κ z i.toNat).2.2 (κ 129 0).toNat).1) (r := (if draws (κ 127 0) (on (lgN κ i (evN κ z i.toNat).2.2 (κ 129 0).toNat).1) then lt (lgN κ i (evN κ z i.toNat).2.2 (κ 129 0).toNat).2 (on (lgN κ i (evN κ z i.toNat).2.2 (κ 129 0).toNat).1) else 0)) (by omega) hrr ?_ 5 (κ 129 0 - 1) (by omega) (by omega) (by omega))
                  · rw [tk_top r129 hlg]
                    exact ⟨Or.inr rfl, Or.inr rfl, Or.inr rfl, Or.inr rfl, Or.inr rfl, Or.inl rfl, Or.inr rfl, Or.inr rfl, Or.inr rfl, Or.inl rfl, trivial⟩
                  · have hs2c := hs2
                    rw [evS, if_pos hst] at hsu
                    have htk := tk_in (b := (lgN κ i (evN κ z i.toNat).2.2 (κ 129 0).toNat).1) (r := (if draws (κ 127 0) (on (lgN κ i (evN κ z i.toNat).2.2 (κ 129 0).toNat).1) then lt (lgN κ i (evN κ z i.toNat).2.2 (κ 129 0).toNat).2 (on (lgN κ i (evN κ z i.toNat).2.2 (κ 129 0).toNat).1) else 0)) (p := -1)
                    refine s_iload_2 (pc := 195) dX9_evening_195 ?_
                    refine s_if_eq (pc := 196) 203 dX9_evening_196 rfl (by omega) (fun h196 => ?_) (fun h196 => ?_)
                    · rw [if_pos (by omega)] at hsu
                      refine s_iload_7 (pc := 203) dX9_evening_203 ?_
                      refine s_istore_1 (pc := 205) dX9_evening_205 (Nat.le_of_ble_eq_true rfl) rfl ?_
                      refine s_aload_0 (pc := 206) dX9_evening_206 ?_
                      refine gfX9_174 (pc := 207) dX9_evening_207 rfl ?_
                      try simp (decide := true) only [wr_s, wr_n, wa_s, wa_n, mg_i, mg_o, if_true, eq_self, reduceIte]
                      try rw [m126]
                      refine s_iconst_1 (pc := 210) dX9_evening_210 ?_
                      refine s_icmp_ne (pc := 211) 218 dX9_evening_211 rfl (by omega) (by omega) (fun h211 => ?_) (fun h211 => ?_)
                      · rw [if_neg (show ¬ κ 126 0 = 1 from h211)] at hsu
                        refine s_iconst_0 (pc := 218) dX9_evening_218 ?_
                        refine s_istore_2 (pc := 219) dX9_evening_219 (Nat.le_of_ble_eq_true rfl) rfl ?_
                        refine s_iinc_3 (pc := 220) dX9_evening_220 (Nat.le_of_ble_eq_true rfl) rfl ?_
                        refine s_goto (pc := 223) 9 dX9_evening_223 rfl ?_
                        refine s_le ?_ (ih (i + 1) _ (by omega) (by omega) ((hF.tr hF2).wr (by decide)) (by rw [hsu, wr_s, if_pos rfl]) (by omega))
                        rw [hsu]
                        exact ⟨Or.inr rfl, Or.inr rfl, Or.inr rfl, Or.inr rfl, Or.inl rfl, Or.inl rfl, Or.inl rfl, Or.inl rfl, Or.inl rfl, Or.inl rfl, trivial⟩
                      · rw [if_pos (show κ 126 0 = 1 from h211)] at hsu
                        refine s_iconst_1 (pc := 214) dX9_evening_214 ?_
                        refine s_goto (pc := 215) 219 dX9_evening_215 rfl ?_
                        refine s_istore_2 (pc := 219) dX9_evening_219 (Nat.le_of_ble_eq_true rfl) rfl ?_
                        refine s_iinc_3 (pc := 220) dX9_evening_220 (Nat.le_of_ble_eq_true rfl) rfl ?_
                        refine s_goto (pc := 223) 9 dX9_evening_223 rfl ?_
                        refine s_le ?_ (ih (i + 1) _ (by omega) (by omega) ((hF.tr hF2).wr (by decide)) (by rw [hsu, wr_s, if_pos rfl]) (by omega))
                        rw [hsu]
                        exact ⟨Or.inr rfl, Or.inr rfl, Or.inr rfl, Or.inr rfl, Or.inl rfl, Or.inl rfl, Or.inl rfl, Or.inl rfl, Or.inl rfl, Or.inl rfl, trivial⟩
                    · rw [if_neg (by omega)] at hsu
                      refine s_iload_1 (pc := 199) dX9_evening_199 ?_
                      refine s_goto (pc := 200) 205 dX9_evening_200 rfl ?_
                      refine s_istore_1 (pc := 205) dX9_evening_205 (Nat.le_of_ble_eq_true rfl) rfl ?_
                      refine s_aload_0 (pc := 206) dX9_evening_206 ?_
                      refine gfX9_174 (pc := 207) dX9_evening_207 rfl ?_
                      try simp (decide := true) only [wr_s, wr_n, wa_s, wa_n, mg_i, mg_o, if_true, eq_self, reduceIte]
                      try rw [m126]
                      refine s_iconst_1 (pc := 210) dX9_evening_210 ?_
                      refine s_icmp_ne (pc := 211) 218 dX9_evening_211 rfl (by omega) (by omega) (fun h211 => ?_) (fun h211 => ?_)
                      · rw [if_neg (show ¬ κ 126 0 = 1 from h211)] at hsu
                        refine s_iconst_0 (pc := 218) dX9_evening_218 ?_
                        refine s_istore_2 (pc := 219) dX9_evening_219 (Nat.le_of_ble_eq_true rfl) rfl ?_
                        refine s_iinc_3 (pc := 220) dX9_evening_220 (Nat.le_of_ble_eq_true rfl) rfl ?_
                        refine s_goto (pc := 223) 9 dX9_evening_223 rfl ?_
                        refine s_le ?_ (ih (i + 1) _ (by omega) (by omega) ((hF.tr hF2).wr (by decide)) (by rw [hsu, wr_s, if_pos rfl]) (by omega))
                        rw [hsu]
                        exact ⟨Or.inr rfl, Or.inr rfl, Or.inr rfl, Or.inr rfl, Or.inl rfl, Or.inl rfl, Or.inl rfl, Or.inl rfl, Or.inl rfl, Or.inl rfl, trivial⟩
                      · rw [if_pos (show κ 126 0 = 1 from h211)] at hsu
                        refine s_iconst_1 (pc := 214) dX9_evening_214 ?_
                        refine s_goto (pc := 215) 219 dX9_evening_215 rfl ?_
                        refine s_istore_2 (pc := 219) dX9_evening_219 (Nat.le_of_ble_eq_true rfl) rfl ?_
                        refine s_iinc_3 (pc := 220) dX9_evening_220 (Nat.le_of_ble_eq_true rfl) rfl ?_
                        refine s_goto (pc := 223) 9 dX9_evening_223 rfl ?_
                        refine s_le ?_ (ih (i + 1) _ (by omega) (by omega) ((hF.tr hF2).wr (by decide)) (by rw [hsu, wr_s, if_pos rfl]) (by omega))
                        rw [hsu]
                        exact ⟨Or.inr rfl, Or.inr rfl, Or.inr rfl, Or.inr rfl, Or.inl rfl, Or.inl rfl, Or.inl rfl, Or.inl rfl, Or.inl rfl, Or.inl rfl, trivial⟩
                · have hd : draws (κ 127 0) (on (lgN κ i (evN κ z i.toNat).2.2 (κ 129 0).toNat).1) := by omega
                  refine s_aload_0 (pc := 112) dX9_evening_112 ?_
                  refine s_iload_5 (pc := 113) dX9_evening_113 ?_
                  refine cV1i (pc := 115) (Ky := kX9_lot) dX9_evening_115 rfl lnX9_321 okX9_lot ⟨9, TX9, 40, rfl, rfl⟩ ⟨Nat.le_of_ble_eq_true rfl, Nat.le_of_ble_eq_true rfl⟩ (Nat.le_of_ble_eq_true rfl) (c_X9_lot (by omega)) ?_
                  rintro _ _ ⟨rfl, rfl⟩
                  refine s_goto (pc := 118) 122 dX9_evening_118 rfl ?_
                  first | refine s_valI (y := (if draws (κ 127 0) (on (lgN κ i (evN κ z i.toNat).2.2 (κ 129 0).toNat).1) then lt (lgN κ i (evN κ z i.toNat).2.2 (κ 129 0).toNat).2 (on (lgN κ i (evN κ z i.toNat).2.2 (κ 129 0).toNat).1) else 0)) (by rw [if_pos hd, hs2]) ?_ | refine s_valI (y := (if draws (κ 127 0) (on (lgN κ i (evN κ z i.toNat).2.2 (κ 129 0).toNat).1) then lt (lgN κ i (evN κ z i.toNat).2.2 (κ 129 0).toNat).2 (on (lgN κ i (evN κ z i.toNat).2.2 (κ 129 0).toNat).1) else 0)) (by rw [if_neg hnd]) ?_
                  refine s_mem (ν := wr ν2 134 0 (if draws (κ 127 0) (on (lgN κ i (evN κ z i.toNat).2.2 (κ 129 0).toNat).1) then sd (lgN κ i (evN κ z i.toNat).2.2 (κ 129 0).toNat).2 else (lgN κ i (evN κ z i.toNat).2.2 (κ 129 0).toNat).2)) (by first | (rw [if_pos hd, hs2]; done) | (rw [if_neg hnd]; exact (wr_id hs2).symm)) ?_
                  have hrr : 0 ≤ (if draws (κ 127 0) (on (lgN κ i (evN κ z i.toNat).2.2 (κ 129 0).toNat).1) then lt (lgN κ i (evN κ z i.toNat).2.2 (κ 129 0).toNat).2 (on (lgN κ i (evN κ z i.toNat).2.2 (κ 129 0).toNat).1) else 0) ∧ (if draws (κ 127 0) (on (lgN κ i (evN κ z i.toNat).2.2 (κ 129 0).toNat).1) then lt (lgN κ i (evN κ z i.toNat).2.2 (κ 129 0).toNat).2 (on (lgN κ i (evN κ z i.toNat).2.2 (κ 129 0).toNat).1) else 0) < 4 := by
                    split
                    · have := hli (by omega); omega
                    · omega
                  refine s_istore_6 (pc := 122) dX9_evening_122 (Nat.le_of_ble_eq_true rfl) rfl ?_
                  refine s_iconst_m1 (pc := 124) dX9_evening_124 ?_
                  refine s_istore_7 (pc := 125) dX9_evening_125 (Nat.le_of_ble_eq_true rfl) rfl ?_
                  refine s_aload_0 (pc := 127) dX9_evening_127 ?_
                  refine gfX9_126 (pc := 128) dX9_evening_128 rfl ?_
                  try simp (decide := true) only [wr_s, wr_n, wa_s, wa_n, mg_i, mg_o, if_true, eq_self, reduceIte]
                  try rw [m125]
                  try rw [m127]
                  try rw [m126]
                  try rw [m124]
                  refine s_iconst_1 (pc := 131) dX9_evening_131 ?_
                  refine s_isub (pc := 132) dX9_evening_132 ?_
                  refine s_istore_8 (pc := 133) dX9_evening_133 (Nat.le_of_ble_eq_true rfl) rfl ?_
                  refine s_le ?_ (lp_X9_evB (o := (evN κ z i.toNat).1) (t := (evN κ z i.toNat).2.1) (i := i) (b := (lgN κ i (evN κ z i.toNat).2.2 (κ 129 0).toNat).1) (r := (if draws (κ 127 0) (on (lgN κ i (evN κ z i.toNat).2.2 (κ 129 0).toNat).1) then lt (lgN κ i (evN κ z i.toNat).2.2 (κ 129 0).toNat).2 (on (lgN κ i (evN κ z i.toNat).2.2 (κ 129 0).toNat).1) else 0)) (by omega) hrr ?_ 5 (κ 129 0 - 1) (by omega) (by omega) (by omega))
                  · rw [tk_top r129 hlg]
                    exact ⟨Or.inr rfl, Or.inr rfl, Or.inr rfl, Or.inr rfl, Or.inr rfl, Or.inl rfl, Or.inr rfl, Or.inr rfl, Or.inr rfl, Or.inl rfl, trivial⟩
                  · have hs2c := hs2
                    rw [evS, if_pos hst] at hsu
                    have htk := tk_in (b := (lgN κ i (evN κ z i.toNat).2.2 (κ 129 0).toNat).1) (r := (if draws (κ 127 0) (on (lgN κ i (evN κ z i.toNat).2.2 (κ 129 0).toNat).1) then lt (lgN κ i (evN κ z i.toNat).2.2 (κ 129 0).toNat).2 (on (lgN κ i (evN κ z i.toNat).2.2 (κ 129 0).toNat).1) else 0)) (p := -1)
                    refine s_iload_2 (pc := 195) dX9_evening_195 ?_
                    refine s_if_eq (pc := 196) 203 dX9_evening_196 rfl (by omega) (fun h196 => ?_) (fun h196 => ?_)
                    · rw [if_pos (by omega)] at hsu
                      refine s_iload_7 (pc := 203) dX9_evening_203 ?_
                      refine s_istore_1 (pc := 205) dX9_evening_205 (Nat.le_of_ble_eq_true rfl) rfl ?_
                      refine s_aload_0 (pc := 206) dX9_evening_206 ?_
                      refine gfX9_174 (pc := 207) dX9_evening_207 rfl ?_
                      try simp (decide := true) only [wr_s, wr_n, wa_s, wa_n, mg_i, mg_o, if_true, eq_self, reduceIte]
                      try rw [m126]
                      refine s_iconst_1 (pc := 210) dX9_evening_210 ?_
                      refine s_icmp_ne (pc := 211) 218 dX9_evening_211 rfl (by omega) (by omega) (fun h211 => ?_) (fun h211 => ?_)
                      · rw [if_neg (show ¬ κ 126 0 = 1 from h211)] at hsu
                        refine s_iconst_0 (pc := 218) dX9_evening_218 ?_
                        refine s_istore_2 (pc := 219) dX9_evening_219 (Nat.le_of_ble_eq_true rfl) rfl ?_
                        refine s_iinc_3 (pc := 220) dX9_evening_220 (Nat.le_of_ble_eq_true rfl) rfl ?_
                        refine s_goto (pc := 223) 9 dX9_evening_223 rfl ?_
                        refine s_le ?_ (ih (i + 1) _ (by omega) (by omega) ((hF.tr hF2).wr (by decide)) (by rw [hsu, wr_s, if_pos rfl]) (by omega))
                        rw [hsu]
                        exact ⟨Or.inr rfl, Or.inr rfl, Or.inr rfl, Or.inr rfl, Or.inl rfl, Or.inl rfl, Or.inl rfl, Or.inl rfl, Or.inl rfl, Or.inl rfl, trivial⟩
                      · rw [if_pos (show κ 126 0 = 1 from h211)] at hsu
                        refine s_iconst_1 (pc := 214) dX9_evening_214 ?_
                        refine s_goto (pc := 215) 219 dX9_evening_215 rfl ?_
                        refine s_istore_2 (pc := 219) dX9_evening_219 (Nat.le_of_ble_eq_true rfl) rfl ?_
                        refine s_iinc_3 (pc := 220) dX9_evening_220 (Nat.le_of_ble_eq_true rfl) rfl ?_
                        refine s_goto (pc := 223) 9 dX9_evening_223 rfl ?_
                        refine s_le ?_ (ih (i + 1) _ (by omega) (by omega) ((hF.tr hF2).wr (by decide)) (by rw [hsu, wr_s, if_pos rfl]) (by omega))
                        rw [hsu]
                        exact ⟨Or.inr rfl, Or.inr rfl, Or.inr rfl, Or.inr rfl, Or.inl rfl, Or.inl rfl, Or.inl rfl, Or.inl rfl, Or.inl rfl, Or.inl rfl, trivial⟩
                    · rw [if_neg (by omega)] at hsu
                      refine s_iload_1 (pc := 199) dX9_evening_199 ?_
                      refine s_goto (pc := 200) 205 dX9_evening_200 rfl ?_
                      refine s_istore_1 (pc := 205) dX9_evening_205 (Nat.le_of_ble_eq_true rfl) rfl ?_
                      refine s_aload_0 (pc := 206) dX9_evening_206 ?_
                      refine gfX9_174 (pc := 207) dX9_evening_207 rfl ?_
                      try simp (decide := true) only [wr_s, wr_n, wa_s, wa_n, mg_i, mg_o, if_true, eq_self, reduceIte]
                      try rw [m126]
                      refine s_iconst_1 (pc := 210) dX9_evening_210 ?_
                      refine s_icmp_ne (pc := 211) 218 dX9_evening_211 rfl (by omega) (by omega) (fun h211 => ?_) (fun h211 => ?_)
                      · rw [if_neg (show ¬ κ 126 0 = 1 from h211)] at hsu
                        refine s_iconst_0 (pc := 218) dX9_evening_218 ?_
                        refine s_istore_2 (pc := 219) dX9_evening_219 (Nat.le_of_ble_eq_true rfl) rfl ?_
                        refine s_iinc_3 (pc := 220) dX9_evening_220 (Nat.le_of_ble_eq_true rfl) rfl ?_
                        refine s_goto (pc := 223) 9 dX9_evening_223 rfl ?_
                        refine s_le ?_ (ih (i + 1) _ (by omega) (by omega) ((hF.tr hF2).wr (by decide)) (by rw [hsu, wr_s, if_pos rfl]) (by omega))
                        rw [hsu]
                        exact ⟨Or.inr rfl, Or.inr rfl, Or.inr rfl, Or.inr rfl, Or.inl rfl, Or.inl rfl, Or.inl rfl, Or.inl rfl, Or.inl rfl, Or.inl rfl, trivial⟩
                      · rw [if_pos (show κ 126 0 = 1 from h211)] at hsu
                        refine s_iconst_1 (pc := 214) dX9_evening_214 ?_
                        refine s_goto (pc := 215) 219 dX9_evening_215 rfl ?_
                        refine s_istore_2 (pc := 219) dX9_evening_219 (Nat.le_of_ble_eq_true rfl) rfl ?_
                        refine s_iinc_3 (pc := 220) dX9_evening_220 (Nat.le_of_ble_eq_true rfl) rfl ?_
                        refine s_goto (pc := 223) 9 dX9_evening_223 rfl ?_
                        refine s_le ?_ (ih (i + 1) _ (by omega) (by omega) ((hF.tr hF2).wr (by decide)) (by rw [hsu, wr_s, if_pos rfl]) (by omega))
                        rw [hsu]
                        exact ⟨Or.inr rfl, Or.inr rfl, Or.inr rfl, Or.inr rfl, Or.inl rfl, Or.inl rfl, Or.inl rfl, Or.inl rfl, Or.inl rfl, Or.inl rfl, trivial⟩
theorem c_X9_evening {κ : Mem} {z : Int} {μ : Mem} (hM : MR κ μ) (he : κ 124 0 = κ 129 0) (hz : μ 134 0 = z) : Mc kX9_evening [.inr (.inr 9)] μ (pI (fun y ν => (ev κ z).1 = y ∧ Fr [134] μ ν ∧ ν 134 0 = (ev κ z).2)) := by
  refine Mc_of (by decide +kernel) (fun _ => Nat.le_of_ble_eq_true rfl) ?_
  show AW kX9_evening 0 [some (.inr (.inr 9)), none, none, none, none, none, none, none, none, none] [] μ _
  have m128 := hM.2.2.2.2.2.1
  have r125 := hM.1.2.1
  refine s_aload_0 (pc := 0) dX9_evening_0 ?_
  refine gfX9_180 (pc := 1) dX9_evening_1 rfl ?_
  refine s_istore_1 (pc := 4) dX9_evening_4 (Nat.le_of_ble_eq_true rfl) rfl ?_
  refine s_iconst_0 (pc := 5) dX9_evening_5 ?_
  refine s_istore_2 (pc := 6) dX9_evening_6 (Nat.le_of_ble_eq_true rfl) rfl ?_
  refine s_iconst_0 (pc := 7) dX9_evening_7 ?_
  refine s_istore_3 (pc := 8) dX9_evening_8 (Nat.le_of_ble_eq_true rfl) rfl ?_
  rw [m128]
  exact lp_X9_ev hM he 5 0 μ (by omega) (by omega) Fr.rf hz (by omega)
theorem c_X9_made {tx : Int → Int} {n s : Int} {hd lv : Int → Int} {μ : Mem} (h_s : -2147483648 ≤ s ∧ s < 2147483648) (e43 : μ 43 = tx) (e122 : μ 122 0 = n) (hn : 0 ≤ n ∧ n ≤ 60) (ht : ∀ k : Int, 0 ≤ k → k < n → 0 ≤ tx k ∧ tx k ≤ 255) (e47 : μ 47 = hd) (e48 : μ 48 = lv) (hhd : ∀ p : Int, 0 ≤ p → p < 4 → 0 ≤ hd p ∧ hd p ≤ 15) (hlv : ∀ p : Int, 0 ≤ p → p < 4 → 0 ≤ lv p ∧ lv p ≤ 4) : Mc kX9_made [.inr (.inr 9), .inl s] μ (pI (fun z ν => (if pPe tx n = 0 then -3 else (ev (cfg tx n hd lv) s).1) = z ∧ Fr [42, 44, 45, 46, 49, 50, 51, 52, 53, 54, 55, 56, 123, 124, 125, 126, 127, 128, 129, 130, 131, 132, 133, 134] μ ν)) := by
  refine Mc_of (by decide +kernel) (fun _ => Nat.le_of_ble_eq_true rfl) ?_
  show AW kX9_made 0 [some (.inr (.inr 9)), some (.inl s)] [] μ _
  have hpe := pPe_in (tx := tx) hn.1
  have hta := pTa_in (tx := tx) hn.1
  refine s_aload_0 (pc := 0) dX9_made_0 ?_
  refine cV0v (pc := 1) (Ky := kX9_tries) dX9_made_1 rfl lnX9_194 okX9_tries ⟨9, TX9, 40, rfl, rfl⟩ ⟨Nat.le_of_ble_eq_true rfl, Nat.le_of_ble_eq_true rfl⟩ (Nat.le_of_ble_eq_true rfl) (c_X9_tries e43 e122 hn ht e47 e48 hhd hlv) ?_
  rintro ν1 ⟨hF1, hR1, hM1⟩
  have c124 : ν1 124 0 = pPe tx n := hR1.1
  refine s_aload_0 (pc := 4) dX9_made_4 ?_
  refine gfX9_126 (pc := 5) dX9_made_5 rfl ?_
  refine s_if_ne (pc := 8) 14 dX9_made_8 rfl (by omega) (fun h8 => ?_) (fun h8 => ?_)
  · refine s_aload_0 (pc := 14) dX9_made_14 ?_
    refine s_iload_1 (pc := 15) dX9_made_15 ?_
    refine pfX9_318 (pc := 16) dX9_made_16 rfl ?_
    refine s_aload_0 (pc := 19) dX9_made_19 ?_
    have hM2 := hM1.frB (Fr.rf.wr (c := 134) (k := 0) (z := s) (by decide) : Fr [134] ν1 _) (by decide)
    refine cV0i (pc := 20) (Ky := kX9_evening) dX9_made_20 rfl lnX9_324 okX9_evening ⟨9, TX9, 40, rfl, rfl⟩ ⟨Nat.le_of_ble_eq_true rfl, Nat.le_of_ble_eq_true rfl⟩ (Nat.le_of_ble_eq_true rfl) (c_X9_evening hM2 rfl (by rw [wr_s, if_pos rfl])) ?_
    rintro _ ν20 ⟨rfl, hF20, hs20⟩
    refine s_ireturn (pc := 23) dX9_made_23 rfl ?_
    first
      | exact ⟨by rw [if_pos (by omega)], hF1.mono (by decide)⟩
      | exact ⟨by rw [if_neg (by omega)], ((hF1.mono (by decide)).wr (by decide)).tr (hF20.mono (by decide))⟩
  · refine s_bipush (pc := 11) (z := -3) dX9_made_11 rfl ?_
    refine s_ireturn (pc := 13) dX9_made_13 rfl ?_
    first
      | exact ⟨by rw [if_pos (by omega)], hF1.mono (by decide)⟩
      | exact ⟨by rw [if_neg (by omega)], ((hF1.mono (by decide)).wr (by decide)).tr (hF20.mono (by decide))⟩
def evsN (κ : Mem) (q z : Int) : Nat → Int × Int
  | 0 => (0, z)
  | j + 1 => ((evsN κ q z j).1 + (if (ev κ (evsN κ q z j).2).1 = q then 1 else 0), (ev κ (evsN κ q z j).2).2)
theorem evsN_succ {κ : Mem} {q z j : Int} (h : 0 ≤ j) : evsN κ q z (j + 1).toNat = ((evsN κ q z j.toNat).1 + (if (ev κ (evsN κ q z j.toNat).2).1 = q then 1 else 0), (ev κ (evsN κ q z j.toNat).2).2) := by
  rw [show (j + 1).toNat = j.toNat + 1 by omega]
  rfl
theorem lp_X9_eveningsOf {κ : Mem} {s k q : Int} {μ : Mem} (hMμ : MR κ μ) (he : κ 124 0 = κ 129 0) (hk : 1 ≤ k ∧ k ≤ 200) (hq : 0 ≤ q ∧ q < 4) : ∀ (f : Nat) (j : Int) (ν : Mem), (0 ≤ j) → (j ≤ k) → (Fr [134] μ ν) → (ν 134 0 = (evsN κ q s j.toNat).2) → k - j < (f : Int) → AW kX9_eveningsOf 15 [some (.inr (.inr 9)), some (.inl s), some (.inl k), some (.inl q), some (.inl (evsN κ q s j.toNat).1), some (.inl j)] [] ν (pI (fun y ν => (evsN κ q s k.toNat).1 = y ∧ Fr [134] μ ν)) := by
  intro f
  induction f with
  | zero =>
    intro j ν h0 h1 hF hs hm
    exfalso; omega
  | succ f ih =>
    intro j ν h0 h1 hF hs hm
    have hM := hMμ.frB hF (by decide)
    have hsu := evsN_succ (κ := κ) (q := q) (z := s) h0
    have hei := evN_in hMμ.1 (z := (evsN κ q s j.toNat).2) (κ 125 0).toNat
    have hei2 : -1 ≤ (ev κ (evsN κ q s j.toNat).2).1 ∧ (ev κ (evsN κ q s j.toNat).2).1 ≤ 3 := hei.1
    refine s_iload_5 (pc := 15) dX9_eveningsOf_15 ?_
    refine s_iload_2 (pc := 17) dX9_eveningsOf_17 ?_
    refine s_icmp_ge (pc := 18) 45 dX9_eveningsOf_18 rfl (by omega) (by omega) (fun h18 => ?_) (fun h18 => ?_)
    · refine s_iload_4 (pc := 45) dX9_eveningsOf_45 ?_
      refine s_ireturn (pc := 47) dX9_eveningsOf_47 rfl ?_
      cases (show j = k by omega)
      exact ⟨rfl, hF⟩
    · refine s_iload_4 (pc := 21) dX9_eveningsOf_21 ?_
      refine s_aload_0 (pc := 23) dX9_eveningsOf_23 ?_
      refine cV0i (pc := 24) (Ky := kX9_evening) dX9_eveningsOf_24 rfl lnX9_324 okX9_evening ⟨9, TX9, 40, rfl, rfl⟩ ⟨Nat.le_of_ble_eq_true rfl, Nat.le_of_ble_eq_true rfl⟩ (Nat.le_of_ble_eq_true rfl) (c_X9_evening hM he hs) ?_
      rintro _ ν24 ⟨rfl, hF24, hs24⟩
      refine s_iload_3 (pc := 27) dX9_eveningsOf_27 ?_
      refine s_icmp_ne (pc := 28) 35 dX9_eveningsOf_28 rfl (by omega) (by omega) (fun h28 => ?_) (fun h28 => ?_)
      · rw [if_neg (by omega)] at hsu
        refine s_iconst_0 (pc := 35) dX9_eveningsOf_35 ?_
        refine s_iadd (pc := 36) dX9_eveningsOf_36 ?_
        refine s_istore_4 (pc := 37) dX9_eveningsOf_37 (Nat.le_of_ble_eq_true rfl) rfl ?_
        refine s_iinc_5 (pc := 39) dX9_eveningsOf_39 (Nat.le_of_ble_eq_true rfl) rfl ?_
        refine s_goto (pc := 42) 15 dX9_eveningsOf_42 rfl ?_
        refine s_le ?_ (ih (j + 1) _ (by omega) (by omega) (hF.tr hF24) (by rw [hsu]; exact hs24) (by omega))
        rw [hsu]
        exact ⟨Or.inr rfl, Or.inr rfl, Or.inr rfl, Or.inr rfl, Or.inr rfl, Or.inr rfl, trivial⟩
      · rw [if_pos (by omega)] at hsu
        refine s_iconst_1 (pc := 31) dX9_eveningsOf_31 ?_
        refine s_goto (pc := 32) 36 dX9_eveningsOf_32 rfl ?_
        refine s_iadd (pc := 36) dX9_eveningsOf_36 ?_
        refine s_istore_4 (pc := 37) dX9_eveningsOf_37 (Nat.le_of_ble_eq_true rfl) rfl ?_
        refine s_iinc_5 (pc := 39) dX9_eveningsOf_39 (Nat.le_of_ble_eq_true rfl) rfl ?_
        refine s_goto (pc := 42) 15 dX9_eveningsOf_42 rfl ?_
        refine s_le ?_ (ih (j + 1) _ (by omega) (by omega) (hF.tr hF24) (by rw [hsu]; exact hs24) (by omega))
        rw [hsu]
        exact ⟨Or.inr rfl, Or.inr rfl, Or.inr rfl, Or.inr rfl, Or.inr rfl, Or.inr rfl, trivial⟩
theorem c_X9_eveningsOf {tx : Int → Int} {n s k q : Int} {hd lv : Int → Int} {μ : Mem} (hk : 1 ≤ k ∧ k ≤ 200) (hq : 0 ≤ q ∧ q < pPe tx n) (e43 : μ 43 = tx) (e122 : μ 122 0 = n) (hn : 0 ≤ n ∧ n ≤ 60) (ht : ∀ k : Int, 0 ≤ k → k < n → 0 ≤ tx k ∧ tx k ≤ 255) (e47 : μ 47 = hd) (e48 : μ 48 = lv) (hhd : ∀ p : Int, 0 ≤ p → p < 4 → 0 ≤ hd p ∧ hd p ≤ 15) (hlv : ∀ p : Int, 0 ≤ p → p < 4 → 0 ≤ lv p ∧ lv p ≤ 4) : Mc kX9_eveningsOf [.inr (.inr 9), .inl s, .inl k, .inl q] μ (pI (fun z ν => (evsN (cfg tx n hd lv) q s k.toNat).1 = z ∧ FrT tx n [42, 44, 45, 46, 49, 50, 51, 52, 53, 54, 55, 56, 123, 124, 125, 126, 127, 128, 129, 130, 131, 132, 133, 134] μ ν)) := by
  refine Mc_of (by decide +kernel) (fun _ => Nat.le_of_ble_eq_true rfl) ?_
  show AW kX9_eveningsOf 0 [some (.inr (.inr 9)), some (.inl s), some (.inl k), some (.inl q), none, none] [] μ _
  have hpe := pPe_in (tx := tx) hn.1
  have hta := pTa_in (tx := tx) hn.1
  refine s_aload_0 (pc := 0) dX9_eveningsOf_0 ?_
  refine cV0v (pc := 1) (Ky := kX9_tries) dX9_eveningsOf_1 rfl lnX9_194 okX9_tries ⟨9, TX9, 40, rfl, rfl⟩ ⟨Nat.le_of_ble_eq_true rfl, Nat.le_of_ble_eq_true rfl⟩ (Nat.le_of_ble_eq_true rfl) (c_X9_tries e43 e122 hn ht e47 e48 hhd hlv) ?_
  rintro ν1 ⟨hF1, hR1, hM1⟩
  have hF1 := FrT.of hF1 hR1
  refine s_aload_0 (pc := 4) dX9_eveningsOf_4 ?_
  refine s_iload_1 (pc := 5) dX9_eveningsOf_5 ?_
  refine pfX9_318 (pc := 6) dX9_eveningsOf_6 rfl ?_
  refine s_iconst_0 (pc := 9) dX9_eveningsOf_9 ?_
  refine s_istore_4 (pc := 10) dX9_eveningsOf_10 (Nat.le_of_ble_eq_true rfl) rfl ?_
  refine s_iconst_0 (pc := 12) dX9_eveningsOf_12 ?_
  refine s_istore_5 (pc := 13) dX9_eveningsOf_13 (Nat.le_of_ble_eq_true rfl) rfl ?_
  have hM2 := hM1.frB (Fr.rf.wr (c := 134) (k := 0) (z := s) (by decide) : Fr [134] ν1 _) (by decide)
  refine AW.mono (lp_X9_eveningsOf hM2 rfl hk (q := q) (s := s) (by omega) 201 0 _ (by omega) (by omega) Fr.rf (by rw [wr_s, if_pos rfl]; rfl) (by omega)) ?_
  rintro r ν ⟨z, rfl, rfl, hF2⟩
  exact ⟨_, rfl, rfl, ((hF1.mono (by decide)).wr (by decide)).tr (hF2.mono (by decide))⟩
theorem c_X9_evenings {tx : Int → Int} {n s k q : Int} {hd lv : Int → Int} {μ : Mem} (h_s : -2147483648 ≤ s ∧ s < 2147483648) (h_k : -2147483648 ≤ k ∧ k < 2147483648) (h_q : -2147483648 ≤ q ∧ q < 2147483648) (e43 : μ 43 = tx) (e122 : μ 122 0 = n) (hn : 0 ≤ n ∧ n ≤ 60) (ht : ∀ k : Int, 0 ≤ k → k < n → 0 ≤ tx k ∧ tx k ≤ 255) (e47 : μ 47 = hd) (e48 : μ 48 = lv) (hhd : ∀ p : Int, 0 ≤ p → p < 4 → 0 ≤ hd p ∧ hd p ≤ 15) (hlv : ∀ p : Int, 0 ≤ p → p < 4 → 0 ≤ lv p ∧ lv p ≤ 4) : Mc kX9_evenings [.inr (.inr 9), .inl s, .inl k, .inl q] μ (pI (fun z ν => (if (1 ≤ k ∧ k ≤ 200) ∧ (0 ≤ q ∧ q < pPe tx n) then (evsN (cfg tx n hd lv) q s k.toNat).1 else -2) = z ∧ Fr [42, 44, 45, 46, 49, 50, 51, 52, 53, 54, 55, 56, 123, 124, 125, 126, 127, 128, 129, 130, 131, 132, 133, 134] μ ν)) := by
  refine Mc_of (by decide +kernel) (fun _ => Nat.le_of_ble_eq_true rfl) ?_
  show AW kX9_evenings 0 [some (.inr (.inr 9)), some (.inl s), some (.inl k), some (.inl q)] [] μ _
  have hpe := pPe_in (tx := tx) hn.1
  have hta := pTa_in (tx := tx) hn.1
  refine s_iload_2 (pc := 0) dX9_evenings_0 ?_
  refine s_i2l (pc := 1) dX9_evenings_1 (by omega) ?_
  refine s_lconst_1 (pc := 2) dX9_evenings_2 ?_
  refine s_ldc2_w (pc := 3) dX9_evenings_3 rfl cnX9_327 ?_
  refine cS3i (pc := 6) (Ky := kX9_in) dX9_evenings_6 rfl lnX9_89 okX9_in ⟨Nat.le_of_ble_eq_true rfl, Nat.le_of_ble_eq_true rfl⟩ (Nat.le_of_ble_eq_true rfl) (c_X9_in (by omega) (by omega) (by omega)) ?_
  rintro _ _ ⟨rfl, rfl⟩
  refine s_if_eq (pc := 9) 30 dX9_evenings_9 rfl (by omega) (fun h9 => ?_) (fun h9 => ?_)
  · refine s_bipush (pc := 30) (z := -2) dX9_evenings_30 rfl ?_
    refine s_ireturn (pc := 32) dX9_evenings_32 rfl ?_
    first | exact ⟨by rw [if_neg (by omega)], Fr.rf⟩ | exact ⟨by rw [if_neg (by omega)], hF14.mono (by decide)⟩ | exact ⟨by rw [if_pos (by omega)], (hF14.mono (by decide)).tr hF24.1⟩
  · refine s_aload_0 (pc := 12) dX9_evenings_12 ?_
    refine s_iload_3 (pc := 13) dX9_evenings_13 ?_
    refine cV1i (pc := 14) (Ky := kX9_isPerson) dX9_evenings_14 rfl lnX9_158 okX9_isPerson ⟨9, TX9, 40, rfl, rfl⟩ ⟨Nat.le_of_ble_eq_true rfl, Nat.le_of_ble_eq_true rfl⟩ (Nat.le_of_ble_eq_true rfl) (c_X9_isPerson (by omega) e43 e122 hn ht) ?_
    rintro _ ν14 ⟨rfl, hF14, hM14⟩
    refine s_if_eq (pc := 17) 30 dX9_evenings_17 rfl (by omega) (fun h17 => ?_) (fun h17 => ?_)
    · refine s_bipush (pc := 30) (z := -2) dX9_evenings_30 rfl ?_
      refine s_ireturn (pc := 32) dX9_evenings_32 rfl ?_
      first | exact ⟨by rw [if_neg (by omega)], Fr.rf⟩ | exact ⟨by rw [if_neg (by omega)], hF14.mono (by decide)⟩ | exact ⟨by rw [if_pos (by omega)], (hF14.mono (by decide)).tr hF24.1⟩
    · refine s_aload_0 (pc := 20) dX9_evenings_20 ?_
      refine s_iload_1 (pc := 21) dX9_evenings_21 ?_
      refine s_iload_2 (pc := 22) dX9_evenings_22 ?_
      refine s_iload_3 (pc := 23) dX9_evenings_23 ?_
      refine cV3i (pc := 24) (Ky := kX9_eveningsOf) dX9_evenings_24 rfl lnX9_329 okX9_eveningsOf ⟨9, TX9, 40, rfl, rfl⟩ ⟨Nat.le_of_ble_eq_true rfl, Nat.le_of_ble_eq_true rfl⟩ (Nat.le_of_ble_eq_true rfl) (c_X9_eveningsOf (tx := tx) (n := n) (hd := hd) (lv := lv) (by omega) (by omega) (by rw [hF14.fn 43 rfl]; exact e43) (by rw [hF14.at 122 rfl 0]; exact e122) hn ht (by rw [hF14.fn 47 rfl]; exact e47) (by rw [hF14.fn 48 rfl]; exact e48) hhd hlv) ?_
      rintro _ ν24 ⟨rfl, hF24⟩
      refine s_goto (pc := 27) 32 dX9_evenings_27 rfl ?_
      refine s_ireturn (pc := 32) dX9_evenings_32 rfl ?_
      first | exact ⟨by rw [if_neg (by omega)], Fr.rf⟩ | exact ⟨by rw [if_neg (by omega)], hF14.mono (by decide)⟩ | exact ⟨by rw [if_pos (by omega)], (hF14.mono (by decide)).tr hF24.1⟩
