/-! ===== what was seen ===== -/
abbrev sawOk (a b c d e : Int) : Prop := (0 ≤ a ∧ a ≤ 3) ∧ (0 ≤ b ∧ b ≤ 9) ∧ (0 ≤ c ∧ c ≤ 4) ∧ (0 ≤ d ∧ d ≤ 1) ∧ (0 ≤ e ∧ e ≤ 1)
def sawM (κ : Mem) (a b c d e : Int) : Mem := wr (wr (wr (wr (wr (wr κ 58 (κ 135 0) a) 59 (κ 135 0) b) 60 (κ 135 0) c) 61 (κ 135 0) d) 62 (κ 135 0) e) 135 0 (κ 135 0 + 1)
def sawF (κ : Mem) (a b c d e : Int) : Mem × Int := if sawOk a b c d e then (if κ 135 0 = 60 then (κ, -4) else (sawM κ a b c d e, κ 135 0 + 1)) else (κ, -2)
theorem sawM_o {κ : Mem} {a b c d e : Int} {x : Nat} (h : x ∉ [58, 59, 60, 61, 62, 135]) : sawM κ a b c d e x = κ x := by
  simp only [List.mem_cons, List.not_mem_nil, or_false, not_or] at h
  obtain ⟨h1, h2, h3, h4, h5, h6⟩ := h
  unfold sawM
  rw [wr_nc h6, wr_nc h5, wr_nc h4, wr_nc h3, wr_nc h2, wr_nc h1]
theorem sawF_o {κ : Mem} {a b c d e : Int} {x : Nat} (h : x ∉ [58, 59, 60, 61, 62, 135]) : (sawF κ a b c d e).1 x = κ x := by
  unfold sawF
  split
  · split
    · rfl
    · exact sawM_o h
  · rfl
theorem sawF_Fr {κ : Mem} {a b c d e : Int} : Fr [58, 59, 60, 61, 62, 135] κ (sawF κ a b c d e).1 := fun _ h => sawF_o h
/-- what is seen holds -/
def SW (κ : Mem) : Prop := (0 ≤ κ 135 0 ∧ κ 135 0 ≤ 60) ∧ ∀ j : Int, 0 ≤ j → j < κ 135 0 → (0 ≤ κ 58 j ∧ κ 58 j ≤ 3) ∧ (0 ≤ κ 59 j ∧ κ 59 j ≤ 9) ∧ (0 ≤ κ 60 j ∧ κ 60 j ≤ 4) ∧ (κ 61 j = 0 ∨ κ 61 j = 1) ∧ (0 ≤ κ 62 j ∧ κ 62 j ≤ 1)
theorem SW.saw {κ : Mem} (h : SW κ) {a b c d e : Int} : SW (sawF κ a b c d e).1 := by
  unfold sawF
  split
  · rename_i ho
    split
    · exact h
    · rename_i hn
      obtain ⟨h1, h2⟩ := h
      have es : sawM κ a b c d e 135 0 = κ 135 0 + 1 := by unfold sawM; rw [wr_s, if_pos rfl]
      have e58 : ∀ j, sawM κ a b c d e 58 j = if j = κ 135 0 then a else κ 58 j := fun j => by unfold sawM; simp (decide := true) only [wr_s, wr_n, if_true]
      have e59 : ∀ j, sawM κ a b c d e 59 j = if j = κ 135 0 then b else κ 59 j := fun j => by unfold sawM; simp (decide := true) only [wr_s, wr_n, if_true]
      have e60 : ∀ j, sawM κ a b c d e 60 j = if j = κ 135 0 then c else κ 60 j := fun j => by unfold sawM; simp (decide := true) only [wr_s, wr_n, if_true]
      have e61 : ∀ j, sawM κ a b c d e 61 j = if j = κ 135 0 then d else κ 61 j := fun j => by unfold sawM; simp (decide := true) only [wr_s, wr_n, if_true]
      have e62 : ∀ j, sawM κ a b c d e 62 j = if j = κ 135 0 then e else κ 62 j := fun j => by unfold sawM; simp (decide := true) only [wr_s, wr_n, if_true]
      show SW (sawM κ a b c d e)
      refine ⟨by rw [es]; omega, fun j j0 j1 => ?_⟩
      show _ ∧ _ ∧ _ ∧ (sawM κ a b c d e 61 j = 0 ∨ sawM κ a b c d e 61 j = 1) ∧ _
      rw [es] at j1
      rw [e58, e59, e60, e61, e62]
      by_cases hj : j = κ 135 0
      · rw [if_pos hj, if_pos hj, if_pos hj, if_pos hj, if_pos hj]
        obtain ⟨o1, o2, o3, o4, o5⟩ := ho
        exact ⟨o1, o2, o3, by omega, o5⟩
      · rw [if_neg hj, if_neg hj, if_neg hj, if_neg hj, if_neg hj]
        exact h2 j j0 (by omega)
  · exact h
def rdS (a : Int) (it : Int → Int) (s : Mem × Int × Int) : Mem × Int × Int := ((sawF s.1 a (it (3 * s.2.2)) (it (3 * s.2.2 + 1)) 0 (it (3 * s.2.2 + 2))).1, if 0 ≤ (sawF s.1 a (it (3 * s.2.2)) (it (3 * s.2.2 + 1)) 0 (it (3 * s.2.2 + 2))).2 then 1 else 0, s.2.2 + (if 0 ≤ (sawF s.1 a (it (3 * s.2.2)) (it (3 * s.2.2 + 1)) 0 (it (3 * s.2.2 + 2))).2 then 1 else 0))
def rdN (κ : Mem) (a : Int) (it : Int → Int) (sz : Int) : Nat → Mem × Int × Int
  | 0 => (κ, 1, 0)
  | j + 1 => if (rdN κ a it sz j).2.1 = 1 ∧ 3 * (rdN κ a it sz j).2.2 + 3 ≤ sz then rdS a it (rdN κ a it sz j) else rdN κ a it sz j
def rd (κ : Mem) (a : Int) (it : Int → Int) (sz : Int) : Mem × Int := ((rdN κ a it sz 20).1, (rdN κ a it sz 20).2.2)
theorem rdN_stop {κ : Mem} {a sz : Int} {it : Int → Int} {j : Nat} (h : ¬ ((rdN κ a it sz j).2.1 = 1 ∧ 3 * (rdN κ a it sz j).2.2 + 3 ≤ sz)) : ∀ k : Nat, rdN κ a it sz (j + k) = rdN κ a it sz j
  | 0 => rfl
  | k + 1 => by
    have := rdN_stop h k
    show (if (rdN κ a it sz (j + k)).2.1 = 1 ∧ 3 * (rdN κ a it sz (j + k)).2.2 + 3 ≤ sz then _ else rdN κ a it sz (j + k)) = _
    rw [this, if_neg h]
theorem rdN_in {κ : Mem} {a sz : Int} {it : Int → Int} : ∀ j : Nat, ((rdN κ a it sz j).2.1 = 0 ∨ ((rdN κ a it sz j).2.1 = 1 ∧ ((rdN κ a it sz j).2.2 = j ∨ sz < 3 * (rdN κ a it sz j).2.2 + 3))) ∧ 0 ≤ (rdN κ a it sz j).2.2 ∧ (rdN κ a it sz j).2.2 ≤ j ∧ Fr [58, 59, 60, 61, 62, 135] κ (rdN κ a it sz j).1 ∧ (SW κ → SW (rdN κ a it sz j).1)
  | 0 => ⟨Or.inr ⟨rfl, Or.inl rfl⟩, Int.le_refl _, Int.le_refl _, Fr.rf, id⟩
  | j + 1 => by
    obtain ⟨h1, h2, h3, h4, h5⟩ := rdN_in (κ := κ) (a := a) (sz := sz) (it := it) j
    unfold rdN
    split
    · rename_i hc
      unfold rdS
      dsimp only
      refine ⟨?_, ?_, ?_, h4.tr sawF_Fr, fun q => (h5 q).saw⟩ <;> split <;> omega
    · rename_i hn
      refine ⟨?_, h2, by omega, h4, h5⟩
      rcases h1 with q | ⟨q1, q2⟩
      · exact Or.inl q
      · exact Or.inr ⟨q1, Or.inr (by omega)⟩
def rdR (μ : Mem) (sh a : Int) : Mem × Int := if (0 ≤ sh ∧ sh ≤ 3) ∧ (0 ≤ a ∧ a ≤ 3) then (if μ 39 sh < 0 then (wr μ 121 0 1, -11) else rd μ a (fun k => μ 41 (60 * sh + k)) (μ 40 sh)) else (μ, -2)
def ofF (κ : Mem) (a t j : Int) : Int := if κ 58 j = a then (4 * κ 62 j - qt t (κ 59 j) (κ 60 j) (κ 61 j)) * (4 * κ 62 j - qt t (κ 59 j) (κ 60 j) (κ 61 j)) else 0
def ofs (κ : Mem) (a t : Int) : Int := sm (ofF κ a t) (κ 135 0).toNat
theorem ofF_in {κ : Mem} (h : SW κ) {a t j : Int} (ht : 0 ≤ t ∧ t ≤ 9) (j0 : 0 ≤ j) (j1 : j < κ 135 0) : 0 ≤ ofF κ a t j ∧ ofF κ a t j ≤ 16 := by
  obtain ⟨h1, h2, h3, h4, h5⟩ := h.2 j j0 j1
  have hq := qt_in (h := κ 61 j) ht h2 h3.1
  unfold ofF
  split
  · generalize qt t (κ 59 j) (κ 60 j) (κ 61 j) = x at hq
    have hx : 4 * κ 62 j - x = 4 ∨ 4 * κ 62 j - x = 3 ∨ 4 * κ 62 j - x = 2 ∨ 4 * κ 62 j - x = 1 ∨ 4 * κ 62 j - x = 0 ∨ 4 * κ 62 j - x = -1 ∨ 4 * κ 62 j - x = -2 ∨ 4 * κ 62 j - x = -3 ∨ 4 * κ 62 j - x = -4 := by omega
    rcases hx with e | e | e | e | e | e | e | e | e <;> rw [e] <;> decide
  · omega
theorem ofN_in {κ : Mem} (h : SW κ) {a t : Int} (ht : 0 ≤ t ∧ t ≤ 9) : ∀ m : Nat, (m : Int) ≤ κ 135 0 → 0 ≤ sm (ofF κ a t) m ∧ sm (ofF κ a t) m ≤ 16 * m
  | 0, _ => ⟨Int.le_refl _, Int.le_refl _⟩
  | m + 1, hm => by
    have h1 := ofN_in h (a := a) ht m (by omega)
    have h2 := ofF_in h (a := a) ht (j := m) (by omega) (by omega)
    show 0 ≤ sm (ofF κ a t) m + ofF κ a t m ∧ sm (ofF κ a t) m + ofF κ a t m ≤ 16 * ((m + 1 : Nat) : Int)
    omega
theorem ofs_in {κ : Mem} (h : SW κ) {a t : Int} (ht : 0 ≤ t ∧ t ≤ 9) : 0 ≤ ofs κ a t ∧ ofs κ a t ≤ 960 := by
  have h0 := h.1
  have := ofN_in h (a := a) ht (κ 135 0).toNat (by omega)
  unfold ofs
  omega
def snF (κ : Mem) (a j : Int) : Int := if κ 58 j = a then 1 else 0
def gsN (κ : Mem) (a : Int) : Nat → Int
  | 0 => 0
  | t + 1 => if ofs κ a (t + 1 : Nat) < ofs κ a (gsN κ a t) then (t + 1 : Nat) else gsN κ a t
theorem gsN_in {κ : Mem} {a : Int} : ∀ t : Nat, 0 ≤ gsN κ a t ∧ gsN κ a t ≤ t
  | 0 => ⟨Int.le_refl _, Int.le_refl _⟩
  | t + 1 => by
    have := gsN_in (κ := κ) (a := a) t
    unfold gsN
    split <;> omega
theorem gsN_up {κ : Mem} {a t : Int} (h : 1 ≤ t) : gsN κ a t.toNat = if ofs κ a t < ofs κ a (gsN κ a (t - 1).toNat) then t else gsN κ a (t - 1).toNat := by
  rw [show t.toNat = (t - 1).toNat + 1 by omega]
  show (if ofs κ a (((t - 1).toNat + 1 : Nat) : Int) < ofs κ a (gsN κ a (t - 1).toNat) then (((t - 1).toNat + 1 : Nat) : Int) else gsN κ a (t - 1).toNat) = _
  rw [show ((((t - 1).toNat + 1 : Nat)) : Int) = t by omega]
def gss (κ : Mem) (a : Int) : Int := if sm (snF κ a) (κ 135 0).toNat = 0 then -3 else gsN κ a 9
def lhF (κ : Mem) (a b w j : Int) : Int := if κ 58 j = a ∧ κ 59 j = b then (if w = 0 then 1 else κ 62 j) else 0
theorem c_X9_saw {a b c d e : Int} {μ : Mem} (hS : 0 ≤ μ 135 0 ∧ μ 135 0 ≤ 60) (h_a : -2147483648 ≤ a ∧ a < 2147483648) (h_b : -2147483648 ≤ b ∧ b < 2147483648) (h_c : -2147483648 ≤ c ∧ c < 2147483648) (h_d : -2147483648 ≤ d ∧ d < 2147483648) (h_e : -2147483648 ≤ e ∧ e < 2147483648) : Mc kX9_saw [.inr (.inr 9), .inl a, .inl b, .inl c, .inl d, .inl e] μ (pI (fun z ν => (sawF μ a b c d e).2 = z ∧ (sawF μ a b c d e).1 = ν)) := by
  refine Mc_of (by decide +kernel) (fun _ => Nat.le_of_ble_eq_true rfl) ?_
  show AW kX9_saw 0 [some (.inr (.inr 9)), some (.inl a), some (.inl b), some (.inl c), some (.inl d), some (.inl e)] [] μ _
  refine s_iload_1 (pc := 0) dX9_saw_0 ?_
  refine cS1i (pc := 1) (Ky := kX9_isAnyone) dX9_saw_1 rfl lnX9_164 okX9_isAnyone ⟨Nat.le_of_ble_eq_true rfl, Nat.le_of_ble_eq_true rfl⟩ (Nat.le_of_ble_eq_true rfl) (c_X9_isAnyone (by omega)) ?_
  rintro _ _ ⟨rfl, rfl⟩
  refine s_if_eq (pc := 4) 47 dX9_saw_4 rfl (by omega) (fun h4 => ?_) (fun h4 => ?_)
  · refine s_bipush (pc := 47) (z := -2) dX9_saw_47 rfl ?_
    refine s_ireturn (pc := 49) dX9_saw_49 rfl ?_
    first
      | exact ⟨by rw [sawF, if_neg (by omega)], by rw [sawF, if_neg (by omega)]⟩
      | exact ⟨by rw [sawF, if_pos (by omega), if_pos (by omega)], by rw [sawF, if_pos (by omega), if_pos (by omega)]⟩
      | exact ⟨by rw [sawF, if_pos (by omega), if_neg (by omega)], by rw [sawF, if_pos (by omega), if_neg (by omega)]; rfl⟩
  · refine s_iload_2 (pc := 7) dX9_saw_7 ?_
    refine s_i2l (pc := 8) dX9_saw_8 (by omega) ?_
    refine s_lconst_0 (pc := 9) dX9_saw_9 ?_
    refine s_ldc2_w (pc := 10) dX9_saw_10 rfl cnX9_300 ?_
    refine cS3i (pc := 13) (Ky := kX9_in) dX9_saw_13 rfl lnX9_89 okX9_in ⟨Nat.le_of_ble_eq_true rfl, Nat.le_of_ble_eq_true rfl⟩ (Nat.le_of_ble_eq_true rfl) (c_X9_in (by omega) (by omega) (by omega)) ?_
    rintro _ _ ⟨rfl, rfl⟩
    refine s_if_eq (pc := 16) 47 dX9_saw_16 rfl (by omega) (fun h16 => ?_) (fun h16 => ?_)
    · refine s_bipush (pc := 47) (z := -2) dX9_saw_47 rfl ?_
      refine s_ireturn (pc := 49) dX9_saw_49 rfl ?_
      first
        | exact ⟨by rw [sawF, if_neg (by omega)], by rw [sawF, if_neg (by omega)]⟩
        | exact ⟨by rw [sawF, if_pos (by omega), if_pos (by omega)], by rw [sawF, if_pos (by omega), if_pos (by omega)]⟩
        | exact ⟨by rw [sawF, if_pos (by omega), if_neg (by omega)], by rw [sawF, if_pos (by omega), if_neg (by omega)]; rfl⟩
    · refine s_iload_3 (pc := 19) dX9_saw_19 ?_
      refine s_i2l (pc := 20) dX9_saw_20 (by omega) ?_
      refine s_lconst_0 (pc := 21) dX9_saw_21 ?_
      refine s_ldc2_w (pc := 22) dX9_saw_22 rfl cnX9_169 ?_
      refine cS3i (pc := 25) (Ky := kX9_in) dX9_saw_25 rfl lnX9_89 okX9_in ⟨Nat.le_of_ble_eq_true rfl, Nat.le_of_ble_eq_true rfl⟩ (Nat.le_of_ble_eq_true rfl) (c_X9_in (by omega) (by omega) (by omega)) ?_
      rintro _ _ ⟨rfl, rfl⟩
      refine s_if_eq (pc := 28) 47 dX9_saw_28 rfl (by omega) (fun h28 => ?_) (fun h28 => ?_)
      · refine s_bipush (pc := 47) (z := -2) dX9_saw_47 rfl ?_
        refine s_ireturn (pc := 49) dX9_saw_49 rfl ?_
        first
          | exact ⟨by rw [sawF, if_neg (by omega)], by rw [sawF, if_neg (by omega)]⟩
          | exact ⟨by rw [sawF, if_pos (by omega), if_pos (by omega)], by rw [sawF, if_pos (by omega), if_pos (by omega)]⟩
          | exact ⟨by rw [sawF, if_pos (by omega), if_neg (by omega)], by rw [sawF, if_pos (by omega), if_neg (by omega)]; rfl⟩
      · refine s_iload_4 (pc := 31) dX9_saw_31 ?_
        refine cS1i (pc := 33) (Ky := kX9_isTwo) dX9_saw_33 rfl lnX9_244 okX9_isTwo ⟨Nat.le_of_ble_eq_true rfl, Nat.le_of_ble_eq_true rfl⟩ (Nat.le_of_ble_eq_true rfl) (c_X9_isTwo (by omega)) ?_
        rintro _ _ ⟨rfl, rfl⟩
        refine s_if_eq (pc := 36) 47 dX9_saw_36 rfl (by omega) (fun h36 => ?_) (fun h36 => ?_)
        · refine s_bipush (pc := 47) (z := -2) dX9_saw_47 rfl ?_
          refine s_ireturn (pc := 49) dX9_saw_49 rfl ?_
          first
            | exact ⟨by rw [sawF, if_neg (by omega)], by rw [sawF, if_neg (by omega)]⟩
            | exact ⟨by rw [sawF, if_pos (by omega), if_pos (by omega)], by rw [sawF, if_pos (by omega), if_pos (by omega)]⟩
            | exact ⟨by rw [sawF, if_pos (by omega), if_neg (by omega)], by rw [sawF, if_pos (by omega), if_neg (by omega)]; rfl⟩
        · refine s_iload_5 (pc := 39) dX9_saw_39 ?_
          refine cS1i (pc := 41) (Ky := kX9_isTwo) dX9_saw_41 rfl lnX9_244 okX9_isTwo ⟨Nat.le_of_ble_eq_true rfl, Nat.le_of_ble_eq_true rfl⟩ (Nat.le_of_ble_eq_true rfl) (c_X9_isTwo (by omega)) ?_
          rintro _ _ ⟨rfl, rfl⟩
          refine s_if_ne (pc := 44) 50 dX9_saw_44 rfl (by omega) (fun h44 => ?_) (fun h44 => ?_)
          · refine s_aload_0 (pc := 50) dX9_saw_50 ?_
            refine gfX9_332 (pc := 51) dX9_saw_51 rfl ?_
            try simp (decide := true) only [wr_s, wr_n, wa_s, wa_n, mg_i, mg_o, if_true, eq_self, reduceIte]
            refine s_bipush (pc := 54) (z := 60) dX9_saw_54 rfl ?_
            refine s_icmp_ne (pc := 56) 62 dX9_saw_56 rfl (by omega) (by omega) (fun h56 => ?_) (fun h56 => ?_)
            · refine s_aload_0 (pc := 62) dX9_saw_62 ?_
              refine gfX9_68 (pc := 63) dX9_saw_63 rfl ?_
              refine s_aload_0 (pc := 66) dX9_saw_66 ?_
              refine gfX9_332 (pc := 67) dX9_saw_67 rfl ?_
              try simp (decide := true) only [wr_s, wr_n, wa_s, wa_n, mg_i, mg_o, if_true, eq_self, reduceIte]
              refine s_iload_1 (pc := 70) dX9_saw_70 ?_
              refine z_iastore (pc := 71) dX9_saw_71 ly_58 ip_58 (by omega) (by omega) ?_
              refine s_aload_0 (pc := 72) dX9_saw_72 ?_
              refine gfX9_71 (pc := 73) dX9_saw_73 rfl ?_
              refine s_aload_0 (pc := 76) dX9_saw_76 ?_
              refine gfX9_332 (pc := 77) dX9_saw_77 rfl ?_
              try simp (decide := true) only [wr_s, wr_n, wa_s, wa_n, mg_i, mg_o, if_true, eq_self, reduceIte]
              refine s_iload_2 (pc := 80) dX9_saw_80 ?_
              refine z_iastore (pc := 81) dX9_saw_81 ly_59 ip_59 (by omega) (by omega) ?_
              refine s_aload_0 (pc := 82) dX9_saw_82 ?_
              refine gfX9_74 (pc := 83) dX9_saw_83 rfl ?_
              refine s_aload_0 (pc := 86) dX9_saw_86 ?_
              refine gfX9_332 (pc := 87) dX9_saw_87 rfl ?_
              try simp (decide := true) only [wr_s, wr_n, wa_s, wa_n, mg_i, mg_o, if_true, eq_self, reduceIte]
              refine s_iload_3 (pc := 90) dX9_saw_90 ?_
              refine z_iastore (pc := 91) dX9_saw_91 ly_60 ip_60 (by omega) (by omega) ?_
              refine s_aload_0 (pc := 92) dX9_saw_92 ?_
              refine gfX9_77 (pc := 93) dX9_saw_93 rfl ?_
              refine s_aload_0 (pc := 96) dX9_saw_96 ?_
              refine gfX9_332 (pc := 97) dX9_saw_97 rfl ?_
              try simp (decide := true) only [wr_s, wr_n, wa_s, wa_n, mg_i, mg_o, if_true, eq_self, reduceIte]
              refine s_iload_4 (pc := 100) dX9_saw_100 ?_
              refine s_iconst_1 (pc := 102) dX9_saw_102 ?_
              refine s_icmp_ne (pc := 103) 110 dX9_saw_103 rfl (by omega) (by omega) (fun h103 => ?_) (fun h103 => ?_)
              · refine s_iconst_0 (pc := 110) dX9_saw_110 ?_
                refine s_valI (y := d) (by omega) ?_
                refine z_zastore (pc := 111) dX9_saw_111 ly_61 ip_61 (by omega) (by omega) (by omega) ?_
                refine s_aload_0 (pc := 112) dX9_saw_112 ?_
                refine gfX9_81 (pc := 113) dX9_saw_113 rfl ?_
                refine s_aload_0 (pc := 116) dX9_saw_116 ?_
                refine gfX9_332 (pc := 117) dX9_saw_117 rfl ?_
                try simp (decide := true) only [wr_s, wr_n, wa_s, wa_n, mg_i, mg_o, if_true, eq_self, reduceIte]
                refine s_iload_5 (pc := 120) dX9_saw_120 ?_
                refine z_iastore (pc := 122) dX9_saw_122 ly_62 ip_62 (by omega) (by omega) ?_
                refine s_aload_0 (pc := 123) dX9_saw_123 ?_
                refine s_dup (pc := 124) dX9_saw_124 rfl ?_
                refine gfX9_332 (pc := 125) dX9_saw_125 rfl ?_
                try simp (decide := true) only [wr_s, wr_n, wa_s, wa_n, mg_i, mg_o, if_true, eq_self, reduceIte]
                refine s_iconst_1 (pc := 128) dX9_saw_128 ?_
                refine s_iadd (pc := 129) dX9_saw_129 ?_
                refine pfX9_332 (pc := 130) dX9_saw_130 rfl ?_
                refine s_aload_0 (pc := 133) dX9_saw_133 ?_
                refine gfX9_332 (pc := 134) dX9_saw_134 rfl ?_
                try simp (decide := true) only [wr_s, wr_n, wa_s, wa_n, mg_i, mg_o, if_true, eq_self, reduceIte]
                refine s_ireturn (pc := 137) dX9_saw_137 rfl ?_
                first
                  | exact ⟨by rw [sawF, if_neg (by omega)], by rw [sawF, if_neg (by omega)]⟩
                  | exact ⟨by rw [sawF, if_pos (by omega), if_pos (by omega)], by rw [sawF, if_pos (by omega), if_pos (by omega)]⟩
                  | exact ⟨by rw [sawF, if_pos (by omega), if_neg (by omega)], by rw [sawF, if_pos (by omega), if_neg (by omega)]; rfl⟩
              · refine s_iconst_1 (pc := 106) dX9_saw_106 ?_
                refine s_goto (pc := 107) 111 dX9_saw_107 rfl ?_
                refine s_valI (y := d) (by omega) ?_
                refine z_zastore (pc := 111) dX9_saw_111 ly_61 ip_61 (by omega) (by omega) (by omega) ?_
                refine s_aload_0 (pc := 112) dX9_saw_112 ?_
                refine gfX9_81 (pc := 113) dX9_saw_113 rfl ?_
                refine s_aload_0 (pc := 116) dX9_saw_116 ?_
                refine gfX9_332 (pc := 117) dX9_saw_117 rfl ?_
                try simp (decide := true) only [wr_s, wr_n, wa_s, wa_n, mg_i, mg_o, if_true, eq_self, reduceIte]
                refine s_iload_5 (pc := 120) dX9_saw_120 ?_
                refine z_iastore (pc := 122) dX9_saw_122 ly_62 ip_62 (by omega) (by omega) ?_
                refine s_aload_0 (pc := 123) dX9_saw_123 ?_
                refine s_dup (pc := 124) dX9_saw_124 rfl ?_
                refine gfX9_332 (pc := 125) dX9_saw_125 rfl ?_
                try simp (decide := true) only [wr_s, wr_n, wa_s, wa_n, mg_i, mg_o, if_true, eq_self, reduceIte]
                refine s_iconst_1 (pc := 128) dX9_saw_128 ?_
                refine s_iadd (pc := 129) dX9_saw_129 ?_
                refine pfX9_332 (pc := 130) dX9_saw_130 rfl ?_
                refine s_aload_0 (pc := 133) dX9_saw_133 ?_
                refine gfX9_332 (pc := 134) dX9_saw_134 rfl ?_
                try simp (decide := true) only [wr_s, wr_n, wa_s, wa_n, mg_i, mg_o, if_true, eq_self, reduceIte]
                refine s_ireturn (pc := 137) dX9_saw_137 rfl ?_
                first
                  | exact ⟨by rw [sawF, if_neg (by omega)], by rw [sawF, if_neg (by omega)]⟩
                  | exact ⟨by rw [sawF, if_pos (by omega), if_pos (by omega)], by rw [sawF, if_pos (by omega), if_pos (by omega)]⟩
                  | exact ⟨by rw [sawF, if_pos (by omega), if_neg (by omega)], by rw [sawF, if_pos (by omega), if_neg (by omega)]; rfl⟩
            · refine s_bipush (pc := 59) (z := -4) dX9_saw_59 rfl ?_
              refine s_ireturn (pc := 61) dX9_saw_61 rfl ?_
              first
                | exact ⟨by rw [sawF, if_neg (by omega)], by rw [sawF, if_neg (by omega)]⟩
                | exact ⟨by rw [sawF, if_pos (by omega), if_pos (by omega)], by rw [sawF, if_pos (by omega), if_pos (by omega)]⟩
                | exact ⟨by rw [sawF, if_pos (by omega), if_neg (by omega)], by rw [sawF, if_pos (by omega), if_neg (by omega)]; rfl⟩
          · refine s_bipush (pc := 47) (z := -2) dX9_saw_47 rfl ?_
            refine s_ireturn (pc := 49) dX9_saw_49 rfl ?_
            first
              | exact ⟨by rw [sawF, if_neg (by omega)], by rw [sawF, if_neg (by omega)]⟩
              | exact ⟨by rw [sawF, if_pos (by omega), if_pos (by omega)], by rw [sawF, if_pos (by omega), if_pos (by omega)]⟩
              | exact ⟨by rw [sawF, if_pos (by omega), if_neg (by omega)], by rw [sawF, if_pos (by omega), if_neg (by omega)]; rfl⟩
theorem lp_X9_read {sh a : Int} {μ : Mem} (hsh : 0 ≤ sh ∧ sh ≤ 3) (ha : 0 ≤ a ∧ a ≤ 3) (hS : SW μ) (hit : ∀ k : Int, 0 ≤ k → k < 240 → -2147483648 ≤ μ 41 k ∧ μ 41 k < 2147483648) (hsz : ∀ k : Int, 0 ≤ k → k < 4 → -1 ≤ μ 40 k ∧ μ 40 k ≤ 60) : ∀ (f : Nat) (j : Int) (s : Mem × Int × Int), (0 ≤ j) → (j ≤ 20) → (rdN μ a (fun k => μ 41 (60 * sh + k)) (μ 40 sh) j.toNat = s) → 20 - j < (f : Int) → AW kX9_read 37 [some (.inr (.inr 9)), some (.inl sh), some (.inl a), some (.inl s.2.2), some (.inl s.2.1), none] [] s.1 (pI (fun z ν => (rd μ a (fun k => μ 41 (60 * sh + k)) (μ 40 sh)).2 = z ∧ (rd μ a (fun k => μ 41 (60 * sh + k)) (μ 40 sh)).1 = ν)) := by
  intro f
  induction f with
  | zero =>
    intro j s h0 h1 hs hm
    exfalso; omega
  | succ f ih =>
    intro j s h0 h1 hs hm
    have hs1 := hsz sh hsh.1 (by omega)
    have hin := rdN_in (κ := μ) (a := a) (sz := μ 40 sh) (it := (fun k => μ 41 (60 * sh + k))) j.toNat
    rw [hs] at hin
    obtain ⟨i1, i2, i3, i4, i5⟩ := hin
    have c40 : s.1 40 sh = μ 40 sh := i4.at 40 rfl sh
    have c41 : s.1 41 = μ 41 := i4.fn 41 rfl
    have hS2 := (i5 hS).1
    have hst : ¬ (s.2.1 = 1 ∧ 3 * s.2.2 + 3 ≤ μ 40 sh) → rd μ a (fun k => μ 41 (60 * sh + k)) (μ 40 sh) = (s.1, s.2.2) := fun q => by
      have := rdN_stop (κ := μ) (a := a) (sz := μ 40 sh) (it := (fun k => μ 41 (60 * sh + k))) (j := j.toNat) (by rw [hs]; exact q) (20 - j.toNat)
      rw [show j.toNat + (20 - j.toNat) = 20 by omega, hs] at this
      unfold rd
      rw [this]
    have hup : (s.2.1 = 1 ∧ 3 * s.2.2 + 3 ≤ μ 40 sh) → rdN μ a (fun k => μ 41 (60 * sh + k)) (μ 40 sh) (j + 1).toNat = rdS a (fun k => μ 41 (60 * sh + k)) s := fun q => by
      rw [show (j + 1).toNat = j.toNat + 1 by omega, rdN, hs, if_pos q]
    refine s_iload_4 (pc := 37) dX9_read_37 ?_
    refine s_if_eq (pc := 39) 123 dX9_read_39 rfl (by omega) (fun h39 => ?_) (fun h39 => ?_)
    · refine s_iload_3 (pc := 123) dX9_read_123 ?_
      refine s_ireturn (pc := 124) dX9_read_124 rfl ?_
      exact ⟨by rw [hst (by omega)], by rw [hst (by omega)]⟩
    · refine s_iconst_3 (pc := 42) dX9_read_42 ?_
      refine s_iload_3 (pc := 43) dX9_read_43 ?_
      refine s_imul (pc := 44) dX9_read_44 ?_
      refine s_iconst_3 (pc := 45) dX9_read_45 ?_
      refine s_iadd (pc := 46) dX9_read_46 ?_
      refine s_aload_0 (pc := 47) dX9_read_47 ?_
      refine gfX9_13 (pc := 48) dX9_read_48 rfl ?_
      refine s_iload_1 (pc := 51) dX9_read_51 ?_
      refine z_iaload (pc := 52) dX9_read_52 ly_40 (by omega) (by omega) ?_
      try rw [c40]
      try rw [c41]
      refine s_icmp_gt (pc := 53) 123 dX9_read_53 rfl (by omega) (by omega) (fun h53 => ?_) (fun h53 => ?_)
      · refine s_iload_3 (pc := 123) dX9_read_123 ?_
        refine s_ireturn (pc := 124) dX9_read_124 rfl ?_
        exact ⟨by rw [hst (by omega)], by rw [hst (by omega)]⟩
      · refine s_bipush (pc := 56) (z := 60) dX9_read_56 rfl ?_
        refine s_iload_1 (pc := 58) dX9_read_58 ?_
        refine s_imul (pc := 59) dX9_read_59 ?_
        refine s_iconst_3 (pc := 60) dX9_read_60 ?_
        refine s_iload_3 (pc := 61) dX9_read_61 ?_
        refine s_imul (pc := 62) dX9_read_62 ?_
        refine s_iadd (pc := 63) dX9_read_63 ?_
        refine s_istore_5 (pc := 64) dX9_read_64 (Nat.le_of_ble_eq_true rfl) rfl ?_
        refine s_aload_0 (pc := 66) dX9_read_66 ?_
        refine s_iload_2 (pc := 67) dX9_read_67 ?_
        refine s_aload_0 (pc := 68) dX9_read_68 ?_
        refine gfX9_16 (pc := 69) dX9_read_69 rfl ?_
        refine s_iload_5 (pc := 72) dX9_read_72 ?_
        refine z_iaload (pc := 74) dX9_read_74 ly_41 (by omega) (by omega) ?_
        try rw [c40]
        try rw [c41]
        refine s_aload_0 (pc := 75) dX9_read_75 ?_
        refine gfX9_16 (pc := 76) dX9_read_76 rfl ?_
        refine s_iload_5 (pc := 79) dX9_read_79 ?_
        refine s_iconst_1 (pc := 81) dX9_read_81 ?_
        refine s_iadd (pc := 82) dX9_read_82 ?_
        refine z_iaload (pc := 83) dX9_read_83 ly_41 (by omega) (by omega) ?_
        try rw [c40]
        try rw [c41]
        refine s_iconst_0 (pc := 84) dX9_read_84 ?_
        refine s_aload_0 (pc := 85) dX9_read_85 ?_
        refine gfX9_16 (pc := 86) dX9_read_86 rfl ?_
        refine s_iload_5 (pc := 89) dX9_read_89 ?_
        refine s_iconst_2 (pc := 91) dX9_read_91 ?_
        refine s_iadd (pc := 92) dX9_read_92 ?_
        refine z_iaload (pc := 93) dX9_read_93 ly_41 (by omega) (by omega) ?_
        try rw [c40]
        try rw [c41]
        have e1 : 60 * sh + 3 * s.2.2 + 1 = 60 * sh + (3 * s.2.2 + 1) := by omega
        have e2 : 60 * sh + 3 * s.2.2 + 2 = 60 * sh + (3 * s.2.2 + 2) := by omega
        rw [e1, e2]
        have t0 := hit (60 * sh + 3 * s.2.2) (by omega) (by omega)
        have t1 := hit (60 * sh + (3 * s.2.2 + 1)) (by omega) (by omega)
        have t2 := hit (60 * sh + (3 * s.2.2 + 2)) (by omega) (by omega)
        refine cV5i (pc := 94) (Ky := kX9_saw) dX9_read_94 rfl lnX9_335 okX9_saw ⟨9, TX9, 40, rfl, rfl⟩ ⟨Nat.le_of_ble_eq_true rfl, Nat.le_of_ble_eq_true rfl⟩ (Nat.le_of_ble_eq_true rfl) (c_X9_saw hS2 (by omega) t0 t1 (by omega) t2) ?_
        rintro _ _ ⟨rfl, rfl⟩
        have hfr : -4 ≤ (sawF s.1 a (μ 41 (60 * sh + 3 * s.2.2)) (μ 41 (60 * sh + (3 * s.2.2 + 1))) 0 (μ 41 (60 * sh + (3 * s.2.2 + 2)))).2 ∧ (sawF s.1 a (μ 41 (60 * sh + 3 * s.2.2)) (μ 41 (60 * sh + (3 * s.2.2 + 1))) 0 (μ 41 (60 * sh + (3 * s.2.2 + 2)))).2 ≤ 61 := by unfold sawF; split <;> (try split) <;> (dsimp only; omega)
        refine s_if_lt (pc := 97) 104 dX9_read_97 rfl (by omega) (fun h97 => ?_) (fun h97 => ?_)
        · have e9 : rdS a (fun k => μ 41 (60 * sh + k)) s = ((sawF s.1 a (μ 41 (60 * sh + 3 * s.2.2)) (μ 41 (60 * sh + (3 * s.2.2 + 1))) 0 (μ 41 (60 * sh + (3 * s.2.2 + 2)))).1, 0, s.2.2 + 0) := by unfold rdS; rw [if_neg (show ¬ 0 ≤ (sawF s.1 a (μ 41 (60 * sh + 3 * s.2.2)) (μ 41 (60 * sh + (3 * s.2.2 + 1))) 0 (μ 41 (60 * sh + (3 * s.2.2 + 2)))).2 by omega)]
          refine s_iconst_0 (pc := 104) dX9_read_104 ?_
          refine s_istore_4 (pc := 105) dX9_read_105 (Nat.le_of_ble_eq_true rfl) rfl ?_
          refine s_iload_3 (pc := 107) dX9_read_107 ?_
          refine s_iload_4 (pc := 108) dX9_read_108 ?_
          refine s_if_eq (pc := 110) 117 dX9_read_110 rfl (by omega) (fun h110 => ?_) (fun h110 => ?_)
          · refine s_iconst_0 (pc := 117) dX9_read_117 ?_
            refine s_iadd (pc := 118) dX9_read_118 ?_
            refine s_istore_3 (pc := 119) dX9_read_119 (Nat.le_of_ble_eq_true rfl) rfl ?_
            refine s_goto (pc := 120) 37 dX9_read_120 rfl ?_
            have hnx := hup ⟨by omega, by omega⟩
            rw [e9] at hnx
            first
              | (refine s_le ?_ (ih (j + 1) ((sawF s.1 a (μ 41 (60 * sh + 3 * s.2.2)) (μ 41 (60 * sh + (3 * s.2.2 + 1))) 0 (μ 41 (60 * sh + (3 * s.2.2 + 2)))).1, 0, s.2.2 + 0) (by omega) (by omega) hnx (by omega))
                 exact ⟨Or.inr rfl, Or.inr rfl, Or.inr rfl, Or.inr rfl, Or.inr rfl, Or.inl rfl, trivial⟩)
              | (refine s_le ?_ (ih (j + 1) ((sawF s.1 a (μ 41 (60 * sh + 3 * s.2.2)) (μ 41 (60 * sh + (3 * s.2.2 + 1))) 0 (μ 41 (60 * sh + (3 * s.2.2 + 2)))).1, 1, s.2.2 + 1) (by omega) (by omega) hnx (by omega))
                 exact ⟨Or.inr rfl, Or.inr rfl, Or.inr rfl, Or.inr rfl, Or.inr rfl, Or.inl rfl, trivial⟩)
          · exact absurd h110 (by decide)
        · have e9 : rdS a (fun k => μ 41 (60 * sh + k)) s = ((sawF s.1 a (μ 41 (60 * sh + 3 * s.2.2)) (μ 41 (60 * sh + (3 * s.2.2 + 1))) 0 (μ 41 (60 * sh + (3 * s.2.2 + 2)))).1, 1, s.2.2 + 1) := by unfold rdS; rw [if_pos (show 0 ≤ (sawF s.1 a (μ 41 (60 * sh + 3 * s.2.2)) (μ 41 (60 * sh + (3 * s.2.2 + 1))) 0 (μ 41 (60 * sh + (3 * s.2.2 + 2)))).2 by omega)]
          refine s_iconst_1 (pc := 100) dX9_read_100 ?_
          refine s_goto (pc := 101) 105 dX9_read_101 rfl ?_
          refine s_istore_4 (pc := 105) dX9_read_105 (Nat.le_of_ble_eq_true rfl) rfl ?_
          refine s_iload_3 (pc := 107) dX9_read_107 ?_
          refine s_iload_4 (pc := 108) dX9_read_108 ?_
          refine s_if_eq (pc := 110) 117 dX9_read_110 rfl (by omega) (fun h110 => ?_) (fun h110 => ?_)
          · exact absurd h110 (by decide)
          · refine s_iconst_1 (pc := 113) dX9_read_113 ?_
            refine s_goto (pc := 114) 118 dX9_read_114 rfl ?_
            refine s_iadd (pc := 118) dX9_read_118 ?_
            refine s_istore_3 (pc := 119) dX9_read_119 (Nat.le_of_ble_eq_true rfl) rfl ?_
            refine s_goto (pc := 120) 37 dX9_read_120 rfl ?_
            have hnx := hup ⟨by omega, by omega⟩
            rw [e9] at hnx
            first
              | (refine s_le ?_ (ih (j + 1) ((sawF s.1 a (μ 41 (60 * sh + 3 * s.2.2)) (μ 41 (60 * sh + (3 * s.2.2 + 1))) 0 (μ 41 (60 * sh + (3 * s.2.2 + 2)))).1, 0, s.2.2 + 0) (by omega) (by omega) hnx (by omega))
                 exact ⟨Or.inr rfl, Or.inr rfl, Or.inr rfl, Or.inr rfl, Or.inr rfl, Or.inl rfl, trivial⟩)
              | (refine s_le ?_ (ih (j + 1) ((sawF s.1 a (μ 41 (60 * sh + 3 * s.2.2)) (μ 41 (60 * sh + (3 * s.2.2 + 1))) 0 (μ 41 (60 * sh + (3 * s.2.2 + 2)))).1, 1, s.2.2 + 1) (by omega) (by omega) hnx (by omega))
                 exact ⟨Or.inr rfl, Or.inr rfl, Or.inr rfl, Or.inr rfl, Or.inr rfl, Or.inl rfl, trivial⟩)
theorem c_X9_read {sh a : Int} {μ : Mem} (h_sh : -2147483648 ≤ sh ∧ sh < 2147483648) (h_a : -2147483648 ≤ a ∧ a < 2147483648) (hS : SW μ) (hit : ∀ k : Int, 0 ≤ k → k < 240 → -2147483648 ≤ μ 41 k ∧ μ 41 k < 2147483648) (hsz : ∀ k : Int, 0 ≤ k → k < 4 → -1 ≤ μ 40 k ∧ μ 40 k ≤ 60) (hfm : ∀ k : Int, 0 ≤ k → k < 4 → -1 ≤ μ 39 k ∧ μ 39 k ≤ 2) : Mc kX9_read [.inr (.inr 9), .inl sh, .inl a] μ (pI (fun z ν => (rdR μ sh a).2 = z ∧ (rdR μ sh a).1 = ν)) := by
  refine Mc_of (by decide +kernel) (fun _ => Nat.le_of_ble_eq_true rfl) ?_
  show AW kX9_read 0 [some (.inr (.inr 9)), some (.inl sh), some (.inl a), none, none, none] [] μ _
  refine s_iload_1 (pc := 0) dX9_read_0 ?_
  refine cS1i (pc := 1) (Ky := kX9_isSheet) dX9_read_1 rfl lnX9_99 okX9_isSheet ⟨Nat.le_of_ble_eq_true rfl, Nat.le_of_ble_eq_true rfl⟩ (Nat.le_of_ble_eq_true rfl) (c_X9_isSheet (by omega)) ?_
  rintro _ _ ⟨rfl, rfl⟩
  refine s_if_eq (pc := 4) 14 dX9_read_4 rfl (by omega) (fun h4 => ?_) (fun h4 => ?_)
  · refine s_bipush (pc := 14) (z := -2) dX9_read_14 rfl ?_
    refine s_ireturn (pc := 16) dX9_read_16 rfl ?_
    first
      | exact ⟨by rw [rdR, if_neg (by omega)], by rw [rdR, if_neg (by omega)]⟩
      | exact ⟨by rw [rdR, if_pos (by omega), if_pos (by omega)]; rfl, by rw [rdR, if_pos (by omega), if_pos (by omega)]⟩
  · refine s_iload_2 (pc := 7) dX9_read_7 ?_
    refine cS1i (pc := 8) (Ky := kX9_isAnyone) dX9_read_8 rfl lnX9_164 okX9_isAnyone ⟨Nat.le_of_ble_eq_true rfl, Nat.le_of_ble_eq_true rfl⟩ (Nat.le_of_ble_eq_true rfl) (c_X9_isAnyone (by omega)) ?_
    rintro _ _ ⟨rfl, rfl⟩
    refine s_if_ne (pc := 11) 17 dX9_read_11 rfl (by omega) (fun h11 => ?_) (fun h11 => ?_)
    · refine s_aload_0 (pc := 17) dX9_read_17 ?_
      refine gfX9_7 (pc := 18) dX9_read_18 rfl ?_
      refine s_iload_1 (pc := 21) dX9_read_21 ?_
      refine z_iaload (pc := 22) dX9_read_22 ly_39 (by omega) (by omega) ?_
      have hf1 := hfm sh (by omega) (by omega)
      refine s_if_ge (pc := 23) 32 dX9_read_23 rfl (by omega) (fun h23 => ?_) (fun h23 => ?_)
      · refine s_iconst_0 (pc := 32) dX9_read_32 ?_
        refine s_istore_3 (pc := 33) dX9_read_33 (Nat.le_of_ble_eq_true rfl) rfl ?_
        refine s_iconst_1 (pc := 34) dX9_read_34 ?_
        refine s_istore_4 (pc := 35) dX9_read_35 (Nat.le_of_ble_eq_true rfl) rfl ?_
        refine AW.mono (lp_X9_read (by omega) (by omega) hS hit hsz 21 0 (μ, 1, 0) (by omega) (by omega) rfl (by omega)) ?_
        rintro r ν ⟨z, rfl, rfl, rfl⟩
        exact ⟨_, rfl, by rw [rdR, if_pos (by omega), if_neg (by omega)], by rw [rdR, if_pos (by omega), if_neg (by omega)]⟩
      · refine s_aload_0 (pc := 26) dX9_read_26 ?_
        refine s_iconst_1 (pc := 27) dX9_read_27 ?_
        refine cV1i (pc := 28) (Ky := kX9_met) dX9_read_28 rfl lnX9_105 okX9_met ⟨9, TX9, 40, rfl, rfl⟩ ⟨Nat.le_of_ble_eq_true rfl, Nat.le_of_ble_eq_true rfl⟩ (Nat.le_of_ble_eq_true rfl) (c_X9_met (by omega)) ?_
        rintro _ _ ⟨rfl, rfl⟩
        refine s_ireturn (pc := 31) dX9_read_31 rfl ?_
        first
          | exact ⟨by rw [rdR, if_neg (by omega)], by rw [rdR, if_neg (by omega)]⟩
          | exact ⟨by rw [rdR, if_pos (by omega), if_pos (by omega)]; rfl, by rw [rdR, if_pos (by omega), if_pos (by omega)]⟩
    · refine s_bipush (pc := 14) (z := -2) dX9_read_14 rfl ?_
      refine s_ireturn (pc := 16) dX9_read_16 rfl ?_
      first
        | exact ⟨by rw [rdR, if_neg (by omega)], by rw [rdR, if_neg (by omega)]⟩
        | exact ⟨by rw [rdR, if_pos (by omega), if_pos (by omega)]; rfl, by rw [rdR, if_pos (by omega), if_pos (by omega)]⟩
theorem lp_X9_offOf {a t : Int} {μ : Mem} (hS : SW μ) (ht : 0 ≤ t ∧ t ≤ 9) (ha : 0 ≤ a ∧ a ≤ 3) : ∀ (f : Nat) (j : Int), (0 ≤ j) → (j ≤ μ 135 0) → μ 135 0 - j < (f : Int) → AW kX9_offOf 5 [some (.inr (.inr 9)), some (.inl a), some (.inl t), some (.inl (sm (ofF μ a t) j.toNat)), some (.inl j), none] [] μ (pI (fun z ν => ofs μ a t = z ∧ μ = ν)) := by
  intro f
  induction f with
  | zero =>
    intro j h0 h1 hm
    exfalso; omega
  | succ f ih =>
    intro j h0 h1 hm
    have h60 := hS.1
    refine s_iload_4 (pc := 5) dX9_offOf_5 ?_
    refine s_aload_0 (pc := 7) dX9_offOf_7 ?_
    refine gfX9_332 (pc := 8) dX9_offOf_8 rfl ?_
    refine s_icmp_ge (pc := 11) 76 dX9_offOf_11 rfl (by omega) (by omega) (fun h11 => ?_) (fun h11 => ?_)
    · refine s_iload_3 (pc := 76) dX9_offOf_76 ?_
      refine s_ireturn (pc := 77) dX9_offOf_77 rfl ?_
      cases (show j = μ 135 0 by omega)
      exact ⟨rfl, rfl⟩
    · obtain ⟨q1, q2, q3, q4, q5⟩ := hS.2 j h0 (by omega)
      have hsu := sm_succ (f := ofF μ a t) h0
      refine s_aload_0 (pc := 14) dX9_offOf_14 ?_
      refine gfX9_68 (pc := 15) dX9_offOf_15 rfl ?_
      refine s_iload_4 (pc := 18) dX9_offOf_18 ?_
      refine z_iaload (pc := 20) dX9_offOf_20 ly_58 (by omega) (by omega) ?_
      refine s_iload_1 (pc := 21) dX9_offOf_21 ?_
      refine s_icmp_ne (pc := 22) 70 dX9_offOf_22 rfl (by omega) (by omega) (fun h22 => ?_) (fun h22 => ?_)
      · rw [ofF, if_neg (by omega)] at hsu
        refine s_iinc_4 (pc := 70) dX9_offOf_70 (Nat.le_of_ble_eq_true rfl) rfl ?_
        refine s_goto (pc := 73) 5 dX9_offOf_73 rfl ?_
        refine s_le ?_ (ih (j + 1) (by omega) (by omega) (by omega))
        rw [hsu]
        first
          | exact ⟨Or.inr rfl, Or.inr rfl, Or.inr rfl, Or.inr rfl, Or.inr rfl, Or.inl rfl, trivial⟩
          | (rw [Int.add_zero]
             exact ⟨Or.inr rfl, Or.inr rfl, Or.inr rfl, Or.inr rfl, Or.inr rfl, Or.inl rfl, trivial⟩)
      · rw [ofF, if_pos (by omega)] at hsu
        refine s_iconst_4 (pc := 25) dX9_offOf_25 ?_
        refine s_aload_0 (pc := 26) dX9_offOf_26 ?_
        refine gfX9_81 (pc := 27) dX9_offOf_27 rfl ?_
        refine s_iload_4 (pc := 30) dX9_offOf_30 ?_
        refine z_iaload (pc := 32) dX9_offOf_32 ly_62 (by omega) (by omega) ?_
        refine s_imul (pc := 33) dX9_offOf_33 ?_
        refine s_iload_2 (pc := 34) dX9_offOf_34 ?_
        refine s_aload_0 (pc := 35) dX9_offOf_35 ?_
        refine gfX9_71 (pc := 36) dX9_offOf_36 rfl ?_
        refine s_iload_4 (pc := 39) dX9_offOf_39 ?_
        refine z_iaload (pc := 41) dX9_offOf_41 ly_59 (by omega) (by omega) ?_
        refine s_aload_0 (pc := 42) dX9_offOf_42 ?_
        refine gfX9_74 (pc := 43) dX9_offOf_43 rfl ?_
        refine s_iload_4 (pc := 46) dX9_offOf_46 ?_
        refine z_iaload (pc := 48) dX9_offOf_48 ly_60 (by omega) (by omega) ?_
        refine s_aload_0 (pc := 49) dX9_offOf_49 ?_
        refine gfX9_77 (pc := 50) dX9_offOf_50 rfl ?_
        refine s_iload_4 (pc := 53) dX9_offOf_53 ?_
        refine z_zaload (pc := 55) dX9_offOf_55 ly_61 (by omega) (by omega) ?_
        refine cS4i (pc := 56) (Ky := kX9_quartersBy) dX9_offOf_56 rfl lnX9_190 okX9_quartersBy ⟨Nat.le_of_ble_eq_true rfl, Nat.le_of_ble_eq_true rfl⟩ (Nat.le_of_ble_eq_true rfl) (c_X9_quartersBy ht (by omega) (by omega) q4) ?_
        rintro _ _ ⟨rfl, rfl⟩
        refine s_isub (pc := 59) dX9_offOf_59 ?_
        refine s_istore_5 (pc := 60) dX9_offOf_60 (Nat.le_of_ble_eq_true rfl) rfl ?_
        refine s_iload_3 (pc := 62) dX9_offOf_62 ?_
        refine s_iload_5 (pc := 63) dX9_offOf_63 ?_
        refine s_iload_5 (pc := 65) dX9_offOf_65 ?_
        refine s_imul (pc := 67) dX9_offOf_67 ?_
        refine s_iadd (pc := 68) dX9_offOf_68 ?_
        refine s_istore_3 (pc := 69) dX9_offOf_69 (Nat.le_of_ble_eq_true rfl) rfl ?_
        refine s_iinc_4 (pc := 70) dX9_offOf_70 (Nat.le_of_ble_eq_true rfl) rfl ?_
        refine s_goto (pc := 73) 5 dX9_offOf_73 rfl ?_
        refine s_le ?_ (ih (j + 1) (by omega) (by omega) (by omega))
        rw [hsu]
        first
          | exact ⟨Or.inr rfl, Or.inr rfl, Or.inr rfl, Or.inr rfl, Or.inr rfl, Or.inl rfl, trivial⟩
          | (rw [Int.add_zero]
             exact ⟨Or.inr rfl, Or.inr rfl, Or.inr rfl, Or.inr rfl, Or.inr rfl, Or.inl rfl, trivial⟩)
theorem c_X9_offOf {a t : Int} {μ : Mem} (hS : SW μ) (ht : 0 ≤ t ∧ t ≤ 9) (ha : 0 ≤ a ∧ a ≤ 3) : Mc kX9_offOf [.inr (.inr 9), .inl a, .inl t] μ (pI (fun z ν => ofs μ a t = z ∧ μ = ν)) := by
  refine Mc_of (by decide +kernel) (fun _ => Nat.le_of_ble_eq_true rfl) ?_
  show AW kX9_offOf 0 [some (.inr (.inr 9)), some (.inl a), some (.inl t), none, none, none] [] μ _
  refine s_iconst_0 (pc := 0) dX9_offOf_0 ?_
  refine s_istore_3 (pc := 1) dX9_offOf_1 (Nat.le_of_ble_eq_true rfl) rfl ?_
  refine s_iconst_0 (pc := 2) dX9_offOf_2 ?_
  refine s_istore_4 (pc := 3) dX9_offOf_3 (Nat.le_of_ble_eq_true rfl) rfl ?_
  have h60 := hS.1
  exact lp_X9_offOf hS ht ha 61 0 (by omega) (by omega) (by omega)
theorem c_X9_off {a t : Int} {μ : Mem} (hS : SW μ) (h_a : -2147483648 ≤ a ∧ a < 2147483648) (h_t : -2147483648 ≤ t ∧ t < 2147483648) : Mc kX9_off [.inr (.inr 9), .inl a, .inl t] μ (pI (fun z ν => (if (0 ≤ a ∧ a ≤ 3) ∧ (0 ≤ t ∧ t ≤ 9) then ofs μ a t else -2) = z ∧ μ = ν)) := by
  refine Mc_of (by decide +kernel) (fun _ => Nat.le_of_ble_eq_true rfl) ?_
  show AW kX9_off 0 [some (.inr (.inr 9)), some (.inl a), some (.inl t)] [] μ _
  refine s_iload_1 (pc := 0) dX9_off_0 ?_
  refine cS1i (pc := 1) (Ky := kX9_isAnyone) dX9_off_1 rfl lnX9_164 okX9_isAnyone ⟨Nat.le_of_ble_eq_true rfl, Nat.le_of_ble_eq_true rfl⟩ (Nat.le_of_ble_eq_true rfl) (c_X9_isAnyone (by omega)) ?_
  rintro _ _ ⟨rfl, rfl⟩
  refine s_if_eq (pc := 4) 23 dX9_off_4 rfl (by omega) (fun h4 => ?_) (fun h4 => ?_)
  · refine s_bipush (pc := 23) (z := -2) dX9_off_23 rfl ?_
    refine s_ireturn (pc := 25) dX9_off_25 rfl ?_
    first | exact ⟨by rw [if_neg (by omega)], rfl⟩ | exact ⟨by rw [if_pos (by omega)], rfl⟩
  · refine s_iload_2 (pc := 7) dX9_off_7 ?_
    refine cS1i (pc := 8) (Ky := kX9_isTicklish) dX9_off_8 rfl lnX9_339 okX9_isTicklish ⟨Nat.le_of_ble_eq_true rfl, Nat.le_of_ble_eq_true rfl⟩ (Nat.le_of_ble_eq_true rfl) (c_X9_isTicklish (by omega)) ?_
    rintro _ _ ⟨rfl, rfl⟩
    refine s_if_eq (pc := 11) 23 dX9_off_11 rfl (by omega) (fun h11 => ?_) (fun h11 => ?_)
    · refine s_bipush (pc := 23) (z := -2) dX9_off_23 rfl ?_
      refine s_ireturn (pc := 25) dX9_off_25 rfl ?_
      first | exact ⟨by rw [if_neg (by omega)], rfl⟩ | exact ⟨by rw [if_pos (by omega)], rfl⟩
    · refine s_aload_0 (pc := 14) dX9_off_14 ?_
      refine s_iload_1 (pc := 15) dX9_off_15 ?_
      refine s_iload_2 (pc := 16) dX9_off_16 ?_
      refine cV2i (pc := 17) (Ky := kX9_offOf) dX9_off_17 rfl lnX9_342 okX9_offOf ⟨9, TX9, 40, rfl, rfl⟩ ⟨Nat.le_of_ble_eq_true rfl, Nat.le_of_ble_eq_true rfl⟩ (Nat.le_of_ble_eq_true rfl) (c_X9_offOf hS (by omega) (by omega)) ?_
      rintro _ _ ⟨rfl, rfl⟩
      refine s_goto (pc := 20) 25 dX9_off_20 rfl ?_
      refine s_ireturn (pc := 25) dX9_off_25 rfl ?_
      first | exact ⟨by rw [if_neg (by omega)], rfl⟩ | exact ⟨by rw [if_pos (by omega)], rfl⟩
theorem lp_X9_guess2 {a : Int} {μ : Mem} (hS : SW μ) (ha : 0 ≤ a ∧ a ≤ 3) : ∀ (f : Nat) (t : Int), (1 ≤ t) → (t ≤ 10) → 10 - t < (f : Int) → AW kX9_guessOf 50 [some (.inr (.inr 9)), some (.inl a), none, some (.inl (gsN μ a (t - 1).toNat)), some (.inl t)] [] μ (pI (fun z ν => gsN μ a 9 = z ∧ μ = ν)) := by
  intro f
  induction f with
  | zero =>
    intro t h0 h1 hm
    exfalso; omega
  | succ f ih =>
    intro t h0 h1 hm
    have hgi := gsN_in (κ := μ) (a := a) (t - 1).toNat
    have hup := gsN_up (κ := μ) (a := a) h0
    refine s_iload_4 (pc := 50) dX9_guessOf_50 ?_
    refine s_bipush (pc := 52) (z := 10) dX9_guessOf_52 rfl ?_
    refine s_icmp_ge (pc := 54) 86 dX9_guessOf_54 rfl (by omega) (by omega) (fun h54 => ?_) (fun h54 => ?_)
    · refine s_iload_3 (pc := 86) dX9_guessOf_86 ?_
      refine s_ireturn (pc := 87) dX9_guessOf_87 rfl ?_
      cases (show t = 10 by omega)
      exact ⟨rfl, rfl⟩
    · refine s_aload_0 (pc := 57) dX9_guessOf_57 ?_
      refine s_iload_1 (pc := 58) dX9_guessOf_58 ?_
      have o1 := ofs_in hS (a := a) (t := t) (by omega)
      have o2 := ofs_in hS (a := a) (t := gsN μ a (t - 1).toNat) (by omega)
      refine s_iload_4 (pc := 59) dX9_guessOf_59 ?_
      refine cV2i (pc := 61) (Ky := kX9_offOf) dX9_guessOf_61 rfl lnX9_342 okX9_offOf ⟨9, TX9, 40, rfl, rfl⟩ ⟨Nat.le_of_ble_eq_true rfl, Nat.le_of_ble_eq_true rfl⟩ (Nat.le_of_ble_eq_true rfl) (c_X9_offOf hS (by omega) (by omega)) ?_
      rintro _ _ ⟨rfl, rfl⟩
      refine s_aload_0 (pc := 64) dX9_guessOf_64 ?_
      refine s_iload_1 (pc := 65) dX9_guessOf_65 ?_
      refine s_iload_3 (pc := 66) dX9_guessOf_66 ?_
      refine cV2i (pc := 67) (Ky := kX9_offOf) dX9_guessOf_67 rfl lnX9_342 okX9_offOf ⟨9, TX9, 40, rfl, rfl⟩ ⟨Nat.le_of_ble_eq_true rfl, Nat.le_of_ble_eq_true rfl⟩ (Nat.le_of_ble_eq_true rfl) (c_X9_offOf hS (by omega) (by omega)) ?_
      rintro _ _ ⟨rfl, rfl⟩
      refine s_icmp_ge (pc := 70) 78 dX9_guessOf_70 rfl (by omega) (by omega) (fun h70 => ?_) (fun h70 => ?_)
      · rw [if_neg (by omega)] at hup
        refine s_iload_3 (pc := 78) dX9_guessOf_78 ?_
        refine s_istore_3 (pc := 79) dX9_guessOf_79 (Nat.le_of_ble_eq_true rfl) rfl ?_
        refine s_iinc_4 (pc := 80) dX9_guessOf_80 (Nat.le_of_ble_eq_true rfl) rfl ?_
        refine s_goto (pc := 83) 50 dX9_guessOf_83 rfl ?_
        refine s_le ?_ (ih (t + 1) (by omega) (by omega) (by omega))
        rw [show t + 1 - 1 = t by omega, hup]
        exact ⟨Or.inr rfl, Or.inr rfl, Or.inl rfl, Or.inr rfl, Or.inr rfl, trivial⟩
      · rw [if_pos (by omega)] at hup
        refine s_iload_4 (pc := 73) dX9_guessOf_73 ?_
        refine s_goto (pc := 75) 79 dX9_guessOf_75 rfl ?_
        refine s_istore_3 (pc := 79) dX9_guessOf_79 (Nat.le_of_ble_eq_true rfl) rfl ?_
        refine s_iinc_4 (pc := 80) dX9_guessOf_80 (Nat.le_of_ble_eq_true rfl) rfl ?_
        refine s_goto (pc := 83) 50 dX9_guessOf_83 rfl ?_
        refine s_le ?_ (ih (t + 1) (by omega) (by omega) (by omega))
        rw [show t + 1 - 1 = t by omega, hup]
        exact ⟨Or.inr rfl, Or.inr rfl, Or.inl rfl, Or.inr rfl, Or.inr rfl, trivial⟩
theorem lp_X9_guess1 {a : Int} {μ : Mem} (hS : SW μ) (ha : 0 ≤ a ∧ a ≤ 3) : ∀ (f : Nat) (j : Int), (0 ≤ j) → (j ≤ μ 135 0) → (0 ≤ sm (snF μ a) j.toNat) → μ 135 0 - j < (f : Int) → AW kX9_guessOf 4 [some (.inr (.inr 9)), some (.inl a), some (.inl (if sm (snF μ a) j.toNat = 0 then 0 else 1)), some (.inl j), none] [] μ (pI (fun z ν => gss μ a = z ∧ μ = ν)) := by
  intro f
  induction f with
  | zero =>
    intro j h0 h1 hn hm
    exfalso; omega
  | succ f ih =>
    intro j h0 h1 hn hm
    have h60 := hS.1
    have hsu := sm_succ (f := snF μ a) h0
    have hsn : 0 ≤ snF μ a j ∧ snF μ a j ≤ 1 := by unfold snF; split <;> omega
    have hbb : 0 ≤ (if sm (snF μ a) j.toNat = 0 then (0 : Int) else 1) ∧ (if sm (snF μ a) j.toNat = 0 then (0 : Int) else 1) ≤ 1 := by split <;> omega
    refine s_iload_3 (pc := 4) dX9_guessOf_4 ?_
    refine s_aload_0 (pc := 5) dX9_guessOf_5 ?_
    refine gfX9_332 (pc := 6) dX9_guessOf_6 rfl ?_
    refine s_icmp_ge (pc := 9) 38 dX9_guessOf_9 rfl (by omega) (by omega) (fun h9 => ?_) (fun h9 => ?_)
    · refine s_iload_2 (pc := 38) dX9_guessOf_38 ?_
      refine s_if_ne (pc := 39) 45 dX9_guessOf_39 rfl (by omega) (fun h39 => ?_) (fun h39 => ?_)
      · refine s_iconst_0 (pc := 45) dX9_guessOf_45 ?_
        refine s_istore_3 (pc := 46) dX9_guessOf_46 (Nat.le_of_ble_eq_true rfl) rfl ?_
        refine s_iconst_1 (pc := 47) dX9_guessOf_47 ?_
        refine s_istore_4 (pc := 48) dX9_guessOf_48 (Nat.le_of_ble_eq_true rfl) rfl ?_
        cases (show j = μ 135 0 by omega)
        refine AW.mono (s_le ?_ (lp_X9_guess2 hS ha 10 1 (by omega) (by omega) (by omega))) ?_
        · exact ⟨Or.inr rfl, Or.inr rfl, Or.inl rfl, Or.inr rfl, Or.inr rfl, trivial⟩
        rintro r ν ⟨z, rfl, rfl, rfl⟩
        exact ⟨_, rfl, by rw [gss, if_neg (by omega)], rfl⟩
      · refine s_bipush (pc := 42) (z := -3) dX9_guessOf_42 rfl ?_
        refine s_ireturn (pc := 44) dX9_guessOf_44 rfl ?_
        cases (show j = μ 135 0 by omega)
        exact ⟨by rw [gss, if_pos (by omega)], rfl⟩
    · refine s_iload_2 (pc := 12) dX9_guessOf_12 ?_
      refine s_if_ne (pc := 13) 26 dX9_guessOf_13 rfl (by omega) (fun h13 => ?_) (fun h13 => ?_)
      · have hu : (if sm (snF μ a) (j + 1).toNat = 0 then (0 : Int) else 1) = 1 := if_neg (by omega)
        refine s_iconst_1 (pc := 26) dX9_guessOf_26 ?_
        refine s_goto (pc := 27) 31 dX9_guessOf_27 rfl ?_
        refine s_istore_2 (pc := 31) dX9_guessOf_31 (Nat.le_of_ble_eq_true rfl) rfl ?_
        refine s_iinc_3 (pc := 32) dX9_guessOf_32 (Nat.le_of_ble_eq_true rfl) rfl ?_
        refine s_goto (pc := 35) 4 dX9_guessOf_35 rfl ?_
        refine s_le ?_ (ih (j + 1) (by omega) (by omega) (by omega) (by omega))
        rw [hu]
        exact ⟨Or.inr rfl, Or.inr rfl, Or.inr rfl, Or.inr rfl, Or.inl rfl, trivial⟩
      · refine s_aload_0 (pc := 16) dX9_guessOf_16 ?_
        refine gfX9_68 (pc := 17) dX9_guessOf_17 rfl ?_
        refine s_iload_3 (pc := 20) dX9_guessOf_20 ?_
        refine z_iaload (pc := 21) dX9_guessOf_21 ly_58 (by omega) (by omega) ?_
        refine s_iload_1 (pc := 22) dX9_guessOf_22 ?_
        obtain ⟨q1, q2, q3, q4, q5⟩ := hS.2 j h0 (by omega)
        refine s_icmp_ne (pc := 23) 30 dX9_guessOf_23 rfl (by omega) (by omega) (fun h23 => ?_) (fun h23 => ?_)
        · have hs0 : snF μ a j = 0 := if_neg (by omega)
          have hu : (if sm (snF μ a) (j + 1).toNat = 0 then (0 : Int) else 1) = 0 := if_pos (by omega)
          refine s_iconst_0 (pc := 30) dX9_guessOf_30 ?_
          refine s_istore_2 (pc := 31) dX9_guessOf_31 (Nat.le_of_ble_eq_true rfl) rfl ?_
          refine s_iinc_3 (pc := 32) dX9_guessOf_32 (Nat.le_of_ble_eq_true rfl) rfl ?_
          refine s_goto (pc := 35) 4 dX9_guessOf_35 rfl ?_
          refine s_le ?_ (ih (j + 1) (by omega) (by omega) (by omega) (by omega))
          rw [hu]
          exact ⟨Or.inr rfl, Or.inr rfl, Or.inr rfl, Or.inr rfl, Or.inl rfl, trivial⟩
        · have hs0 : snF μ a j = 1 := if_pos (by omega)
          have hu : (if sm (snF μ a) (j + 1).toNat = 0 then (0 : Int) else 1) = 1 := if_neg (by omega)
          refine s_iconst_1 (pc := 26) dX9_guessOf_26 ?_
          refine s_goto (pc := 27) 31 dX9_guessOf_27 rfl ?_
          refine s_istore_2 (pc := 31) dX9_guessOf_31 (Nat.le_of_ble_eq_true rfl) rfl ?_
          refine s_iinc_3 (pc := 32) dX9_guessOf_32 (Nat.le_of_ble_eq_true rfl) rfl ?_
          refine s_goto (pc := 35) 4 dX9_guessOf_35 rfl ?_
          refine s_le ?_ (ih (j + 1) (by omega) (by omega) (by omega) (by omega))
          rw [hu]
          exact ⟨Or.inr rfl, Or.inr rfl, Or.inr rfl, Or.inr rfl, Or.inl rfl, trivial⟩
theorem c_X9_guessOf {a : Int} {μ : Mem} (hS : SW μ) (ha : 0 ≤ a ∧ a ≤ 3) : Mc kX9_guessOf [.inr (.inr 9), .inl a] μ (pI (fun z ν => gss μ a = z ∧ μ = ν)) := by
  refine Mc_of (by decide +kernel) (fun _ => Nat.le_of_ble_eq_true rfl) ?_
  show AW kX9_guessOf 0 [some (.inr (.inr 9)), some (.inl a), none, none, none] [] μ _
  refine s_iconst_0 (pc := 0) dX9_guessOf_0 ?_
  refine s_istore_2 (pc := 1) dX9_guessOf_1 (Nat.le_of_ble_eq_true rfl) rfl ?_
  refine s_iconst_0 (pc := 2) dX9_guessOf_2 ?_
  refine s_istore_3 (pc := 3) dX9_guessOf_3 (Nat.le_of_ble_eq_true rfl) rfl ?_
  have h60 := hS.1
  exact lp_X9_guess1 hS ha 61 0 (by omega) (by omega) (Int.le_refl _) (by omega)
theorem c_X9_guess {a : Int} {μ : Mem} (hS : SW μ) (h_a : -2147483648 ≤ a ∧ a < 2147483648) : Mc kX9_guess [.inr (.inr 9), .inl a] μ (pI (fun z ν => (if 0 ≤ a ∧ a ≤ 3 then gss μ a else -2) = z ∧ μ = ν)) := by
  refine Mc_of (by decide +kernel) (fun _ => Nat.le_of_ble_eq_true rfl) ?_
  show AW kX9_guess 0 [some (.inr (.inr 9)), some (.inl a)] [] μ _
  refine s_iload_1 (pc := 0) dX9_guess_0 ?_
  refine cS1i (pc := 1) (Ky := kX9_isAnyone) dX9_guess_1 rfl lnX9_164 okX9_isAnyone ⟨Nat.le_of_ble_eq_true rfl, Nat.le_of_ble_eq_true rfl⟩ (Nat.le_of_ble_eq_true rfl) (c_X9_isAnyone (by omega)) ?_
  rintro _ _ ⟨rfl, rfl⟩
  refine s_if_eq (pc := 4) 15 dX9_guess_4 rfl (by omega) (fun h4 => ?_) (fun h4 => ?_)
  · refine s_bipush (pc := 15) (z := -2) dX9_guess_15 rfl ?_
    refine s_ireturn (pc := 17) dX9_guess_17 rfl ?_
    first | exact ⟨by rw [if_neg (by omega)], rfl⟩ | exact ⟨by rw [if_pos (by omega)], rfl⟩
  · refine s_aload_0 (pc := 7) dX9_guess_7 ?_
    refine s_iload_1 (pc := 8) dX9_guess_8 ?_
    refine cV1i (pc := 9) (Ky := kX9_guessOf) dX9_guess_9 rfl lnX9_345 okX9_guessOf ⟨9, TX9, 40, rfl, rfl⟩ ⟨Nat.le_of_ble_eq_true rfl, Nat.le_of_ble_eq_true rfl⟩ (Nat.le_of_ble_eq_true rfl) (c_X9_guessOf hS (by omega)) ?_
    rintro _ _ ⟨rfl, rfl⟩
    refine s_goto (pc := 12) 17 dX9_guess_12 rfl ?_
    refine s_ireturn (pc := 17) dX9_guess_17 rfl ?_
    first | exact ⟨by rw [if_neg (by omega)], rfl⟩ | exact ⟨by rw [if_pos (by omega)], rfl⟩
theorem lp_X9_laughs {a b w : Int} {μ : Mem} (hS : SW μ) (ha : 0 ≤ a ∧ a ≤ 3) (hb : 0 ≤ b ∧ b ≤ 9) (hw : 0 ≤ w ∧ w ≤ 1) : ∀ (f : Nat) (j : Int), (0 ≤ j) → (j ≤ μ 135 0) → μ 135 0 - j < (f : Int) → AW kX9_laughs 35 [some (.inr (.inr 9)), some (.inl a), some (.inl b), some (.inl w), some (.inl (sm (lhF μ a b w) j.toNat)), some (.inl j)] [] μ (pI (fun z ν => sm (lhF μ a b w) (μ 135 0).toNat = z ∧ μ = ν)) := by
  intro f
  induction f with
  | zero =>
    intro j h0 h1 hm
    exfalso; omega
  | succ f ih =>
    intro j h0 h1 hm
    have h60 := hS.1
    have hsu := sm_succ (f := lhF μ a b w) h0
    refine s_iload_5 (pc := 35) dX9_laughs_35 ?_
    refine s_aload_0 (pc := 37) dX9_laughs_37 ?_
    refine gfX9_332 (pc := 38) dX9_laughs_38 rfl ?_
    refine s_icmp_ge (pc := 41) 96 dX9_laughs_41 rfl (by omega) (by omega) (fun h41 => ?_) (fun h41 => ?_)
    · refine s_iload_4 (pc := 96) dX9_laughs_96 ?_
      refine s_ireturn (pc := 98) dX9_laughs_98 rfl ?_
      cases (show j = μ 135 0 by omega)
      exact ⟨rfl, rfl⟩
    · refine s_iload_4 (pc := 44) dX9_laughs_44 ?_
      refine s_aload_0 (pc := 46) dX9_laughs_46 ?_
      refine gfX9_68 (pc := 47) dX9_laughs_47 rfl ?_
      refine s_iload_5 (pc := 50) dX9_laughs_50 ?_
      refine z_iaload (pc := 52) dX9_laughs_52 ly_58 (by omega) (by omega) ?_
      refine s_iload_1 (pc := 53) dX9_laughs_53 ?_
      obtain ⟨q1, q2, q3, q4, q5⟩ := hS.2 j h0 (by omega)
      refine s_icmp_ne (pc := 54) 86 dX9_laughs_54 rfl (by omega) (by omega) (fun h54 => ?_) (fun h54 => ?_)
      · rw [lhF, if_neg (by omega)] at hsu
        refine s_iconst_0 (pc := 86) dX9_laughs_86 ?_
        refine s_iadd (pc := 87) dX9_laughs_87 ?_
        refine s_istore_4 (pc := 88) dX9_laughs_88 (Nat.le_of_ble_eq_true rfl) rfl ?_
        refine s_iinc_5 (pc := 90) dX9_laughs_90 (Nat.le_of_ble_eq_true rfl) rfl ?_
        refine s_goto (pc := 93) 35 dX9_laughs_93 rfl ?_
        refine s_le ?_ (ih (j + 1) (by omega) (by omega) (by omega))
        rw [hsu]
        exact ⟨Or.inr rfl, Or.inr rfl, Or.inr rfl, Or.inr rfl, Or.inr rfl, Or.inr rfl, trivial⟩
      · refine s_aload_0 (pc := 57) dX9_laughs_57 ?_
        refine gfX9_71 (pc := 58) dX9_laughs_58 rfl ?_
        refine s_iload_5 (pc := 61) dX9_laughs_61 ?_
        refine z_iaload (pc := 63) dX9_laughs_63 ly_59 (by omega) (by omega) ?_
        refine s_iload_2 (pc := 64) dX9_laughs_64 ?_
        refine s_icmp_ne (pc := 65) 86 dX9_laughs_65 rfl (by omega) (by omega) (fun h65 => ?_) (fun h65 => ?_)
        · rw [lhF, if_neg (by omega)] at hsu
          refine s_iconst_0 (pc := 86) dX9_laughs_86 ?_
          refine s_iadd (pc := 87) dX9_laughs_87 ?_
          refine s_istore_4 (pc := 88) dX9_laughs_88 (Nat.le_of_ble_eq_true rfl) rfl ?_
          refine s_iinc_5 (pc := 90) dX9_laughs_90 (Nat.le_of_ble_eq_true rfl) rfl ?_
          refine s_goto (pc := 93) 35 dX9_laughs_93 rfl ?_
          refine s_le ?_ (ih (j + 1) (by omega) (by omega) (by omega))
          rw [hsu]
          exact ⟨Or.inr rfl, Or.inr rfl, Or.inr rfl, Or.inr rfl, Or.inr rfl, Or.inr rfl, trivial⟩
        · refine s_iload_3 (pc := 68) dX9_laughs_68 ?_
          refine s_if_ne (pc := 69) 76 dX9_laughs_69 rfl (by omega) (fun h69 => ?_) (fun h69 => ?_)
          · rw [lhF, if_pos (by omega), if_neg (by omega)] at hsu
            refine s_aload_0 (pc := 76) dX9_laughs_76 ?_
            refine gfX9_81 (pc := 77) dX9_laughs_77 rfl ?_
            refine s_iload_5 (pc := 80) dX9_laughs_80 ?_
            refine z_iaload (pc := 82) dX9_laughs_82 ly_62 (by omega) (by omega) ?_
            refine s_goto (pc := 83) 87 dX9_laughs_83 rfl ?_
            refine s_iadd (pc := 87) dX9_laughs_87 ?_
            refine s_istore_4 (pc := 88) dX9_laughs_88 (Nat.le_of_ble_eq_true rfl) rfl ?_
            refine s_iinc_5 (pc := 90) dX9_laughs_90 (Nat.le_of_ble_eq_true rfl) rfl ?_
            refine s_goto (pc := 93) 35 dX9_laughs_93 rfl ?_
            refine s_le ?_ (ih (j + 1) (by omega) (by omega) (by omega))
            rw [hsu]
            exact ⟨Or.inr rfl, Or.inr rfl, Or.inr rfl, Or.inr rfl, Or.inr rfl, Or.inr rfl, trivial⟩
          · rw [lhF, if_pos (by omega), if_pos (by omega)] at hsu
            refine s_iconst_1 (pc := 72) dX9_laughs_72 ?_
            refine s_goto (pc := 73) 87 dX9_laughs_73 rfl ?_
            refine s_iadd (pc := 87) dX9_laughs_87 ?_
            refine s_istore_4 (pc := 88) dX9_laughs_88 (Nat.le_of_ble_eq_true rfl) rfl ?_
            refine s_iinc_5 (pc := 90) dX9_laughs_90 (Nat.le_of_ble_eq_true rfl) rfl ?_
            refine s_goto (pc := 93) 35 dX9_laughs_93 rfl ?_
            refine s_le ?_ (ih (j + 1) (by omega) (by omega) (by omega))
            rw [hsu]
            exact ⟨Or.inr rfl, Or.inr rfl, Or.inr rfl, Or.inr rfl, Or.inr rfl, Or.inr rfl, trivial⟩
theorem c_X9_laughs {a b w : Int} {μ : Mem} (hS : SW μ) (h_a : -2147483648 ≤ a ∧ a < 2147483648) (h_b : -2147483648 ≤ b ∧ b < 2147483648) (h_w : -2147483648 ≤ w ∧ w < 2147483648) : Mc kX9_laughs [.inr (.inr 9), .inl a, .inl b, .inl w] μ (pI (fun z ν => (if (0 ≤ a ∧ a ≤ 3) ∧ (0 ≤ b ∧ b ≤ 9) ∧ (0 ≤ w ∧ w ≤ 1) then sm (lhF μ a b w) (μ 135 0).toNat else -2) = z ∧ μ = ν)) := by
  refine Mc_of (by decide +kernel) (fun _ => Nat.le_of_ble_eq_true rfl) ?_
  show AW kX9_laughs 0 [some (.inr (.inr 9)), some (.inl a), some (.inl b), some (.inl w), none, none] [] μ _
  refine s_iload_1 (pc := 0) dX9_laughs_0 ?_
  refine cS1i (pc := 1) (Ky := kX9_isAnyone) dX9_laughs_1 rfl lnX9_164 okX9_isAnyone ⟨Nat.le_of_ble_eq_true rfl, Nat.le_of_ble_eq_true rfl⟩ (Nat.le_of_ble_eq_true rfl) (c_X9_isAnyone (by omega)) ?_
  rintro _ _ ⟨rfl, rfl⟩
  refine s_if_eq (pc := 4) 26 dX9_laughs_4 rfl (by omega) (fun h4 => ?_) (fun h4 => ?_)
  · refine s_bipush (pc := 26) (z := -2) dX9_laughs_26 rfl ?_
    refine s_ireturn (pc := 28) dX9_laughs_28 rfl ?_
    exact ⟨by rw [if_neg (by omega)], rfl⟩
  · refine s_iload_2 (pc := 7) dX9_laughs_7 ?_
    refine s_i2l (pc := 8) dX9_laughs_8 (by omega) ?_
    refine s_lconst_0 (pc := 9) dX9_laughs_9 ?_
    refine s_ldc2_w (pc := 10) dX9_laughs_10 rfl cnX9_300 ?_
    refine cS3i (pc := 13) (Ky := kX9_in) dX9_laughs_13 rfl lnX9_89 okX9_in ⟨Nat.le_of_ble_eq_true rfl, Nat.le_of_ble_eq_true rfl⟩ (Nat.le_of_ble_eq_true rfl) (c_X9_in (by omega) (by omega) (by omega)) ?_
    rintro _ _ ⟨rfl, rfl⟩
    refine s_if_eq (pc := 16) 26 dX9_laughs_16 rfl (by omega) (fun h16 => ?_) (fun h16 => ?_)
    · refine s_bipush (pc := 26) (z := -2) dX9_laughs_26 rfl ?_
      refine s_ireturn (pc := 28) dX9_laughs_28 rfl ?_
      exact ⟨by rw [if_neg (by omega)], rfl⟩
    · refine s_iload_3 (pc := 19) dX9_laughs_19 ?_
      refine cS1i (pc := 20) (Ky := kX9_isTwo) dX9_laughs_20 rfl lnX9_244 okX9_isTwo ⟨Nat.le_of_ble_eq_true rfl, Nat.le_of_ble_eq_true rfl⟩ (Nat.le_of_ble_eq_true rfl) (c_X9_isTwo (by omega)) ?_
      rintro _ _ ⟨rfl, rfl⟩
      refine s_if_ne (pc := 23) 29 dX9_laughs_23 rfl (by omega) (fun h23 => ?_) (fun h23 => ?_)
      · refine s_iconst_0 (pc := 29) dX9_laughs_29 ?_
        refine s_istore_4 (pc := 30) dX9_laughs_30 (Nat.le_of_ble_eq_true rfl) rfl ?_
        refine s_iconst_0 (pc := 32) dX9_laughs_32 ?_
        refine s_istore_5 (pc := 33) dX9_laughs_33 (Nat.le_of_ble_eq_true rfl) rfl ?_
        have h60 := hS.1
        refine AW.mono (lp_X9_laughs hS (a := a) (b := b) (w := w) (by omega) (by omega) (by omega) 61 0 (by omega) (by omega) (by omega)) ?_
        rintro r ν ⟨z, rfl, rfl, rfl⟩
        exact ⟨_, rfl, by rw [if_pos (by omega)], rfl⟩
      · refine s_bipush (pc := 26) (z := -2) dX9_laughs_26 rfl ?_
        refine s_ireturn (pc := 28) dX9_laughs_28 rfl ?_
        exact ⟨by rw [if_neg (by omega)], rfl⟩
