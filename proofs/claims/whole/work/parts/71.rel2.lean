theorem SH.note {μ : Mem} (h : SH μ) {z : Int} (hz : 0 ≤ z ∧ z ≤ 9) : SH (wr (wr μ 120 0 z) 121 0 z) := by
  have hE : Fr [120, 121] μ (wr (wr μ 120 0 z) 121 0 z) := (Fr.rf.wr (c := 120) (by decide)).wr (c := 121) (by decide)
  refine ⟨?_, ?_, ?_, ?_, ?_⟩
  · rw [hE.fn 36 rfl, hE.fn 37 rfl, hE.fn 38 rfl, hE.fn 39 rfl, hE.fn 40 rfl, hE.fn 41 rfl]; exact h.hsh
  · rw [hE.fn 38 rfl]; exact h.hi8
  · rw [hE.fn 41 rfl]; exact h.hi9
  · rw [wr_c, if_pos rfl, wr_nc (by decide), wr_c, if_pos rfl]
  · rw [wr_c, if_pos rfl]; omega
theorem REL.note {μ : Mem} (h : REL μ) {z : Int} (hz : 0 ≤ z ∧ z ≤ 9) : REL (wr (wr μ 120 0 z) 121 0 z) := ⟨h.1.fr (F := [120, 121]) ((Fr.rf.wr (c := 120) (by decide)).wr (c := 121) (by decide)) (by decide), h.2.note hz⟩
theorem SH.it {μ : Mem} (h : SH μ) {s k : Int} (s0 : 0 ≤ s) (s1 : s < 4) (hf : 0 ≤ μ 39 s) (k0 : 0 ≤ k) (k1 : k < μ 40 s) : μ 38 (60 * s + k) = μ 41 (60 * s + k) := by
  obtain ⟨a1, a2, a3⟩ := h.hsh s s0 s1
  rcases a3 with a3 | ⟨b1, b2, b3, b4⟩
  · omega
  · exact b4 k k0 k1
/-- items alone changed, on both sides alike -/
theorem SH.items {μ ρ : Mem} (h : SH μ) (g36 : ρ 36 = μ 36) (g37 : ρ 37 = μ 37) (g39 : ρ 39 = μ 39) (g40 : ρ 40 = μ 40) (h8 : ∀ k : Int, 0 ≤ k → k < 240 → -2147483648 ≤ ρ 38 k ∧ ρ 38 k < 2147483648) (h9 : ∀ k : Int, 0 ≤ k → k < 240 → -2147483648 ≤ ρ 41 k ∧ ρ 41 k < 2147483648)
    (hi : ∀ s : Int, 0 ≤ s → s < 4 → 0 ≤ μ 39 s → ∀ k : Int, 0 ≤ k → k < μ 40 s → ρ 38 (60 * s + k) = ρ 41 (60 * s + k)) (e1 : ρ 120 0 = ρ 121 0) (e2 : -2147483648 ≤ ρ 121 0 ∧ ρ 121 0 < 2147483648) : SH ρ := by
  refine ⟨?_, h8, h9, e1, e2⟩
  rw [g36, g37, g39, g40]
  intro s s0 s1
  obtain ⟨a1, a2, a3⟩ := h.hsh s s0 s1
  refine ⟨a1, a2, ?_⟩
  rcases a3 with a3 | ⟨b1, b2, b3, b4⟩
  · exact Or.inl a3
  · exact Or.inr ⟨b1, b2, b3, hi s s0 s1 b3.1⟩
theorem REL.items {μ ρ : Mem} (h : REL μ) (hE : Fr [38, 41, 42] μ ρ) (h8 : ∀ k : Int, 0 ≤ k → k < 240 → -2147483648 ≤ ρ 38 k ∧ ρ 38 k < 2147483648) (h9 : ∀ k : Int, 0 ≤ k → k < 240 → -2147483648 ≤ ρ 41 k ∧ ρ 41 k < 2147483648)
    (hi : ∀ s : Int, 0 ≤ s → s < 4 → 0 ≤ μ 39 s → ∀ k : Int, 0 ≤ k → k < μ 40 s → ρ 38 (60 * s + k) = ρ 41 (60 * s + k)) : REL ρ := by
  refine ⟨h.1.fr hE (by decide), h.2.items (hE.fn 36 rfl) (hE.fn 37 rfl) (hE.fn 39 rfl) (hE.fn 40 rfl) h8 h9 hi ?_ ?_⟩
  · rw [hE.fn 120 rfl, hE.fn 121 rfl]; exact h.2.e120
  · rw [hE.fn 121 rfl]; exact h.2.h121
theorem ro_lose {s : Int} {μ : Mem} (h_s : -2147483648 ≤ s ∧ s < 2147483648) (h : REL μ) : Mc kX8_lose [.inr (.inr 0), .inl s] μ (pI (fun z ν => Mc kX9_lose [.inr (.inr 9), .inl s] ν (pI (fun w ρ => z = w ∧ REL ρ)))) := by
  refine Mc.mono (c_X8_lose h_s h.2.za) ?_
  rintro r ν ⟨z, rfl, hz⟩
  refine ⟨_, rfl, ?_⟩
  have hM : Fr [36, 120] μ ν := by
    rcases hz with ⟨-, -, rfl⟩ | ⟨-, -, rfl⟩ | ⟨-, -, rfl⟩
    · exact Fr.rf
    · exact Fr.rf.wr (c := 120) (by decide)
    · exact Fr.rf.wr (c := 36) (by decide)
  have e39 := hM.fn 39 rfl
  have e40 := hM.fn 40 rfl
  refine Mc.mono (c_X9_lose h_s (by rw [e39, e40]; exact h.2.fm)) ?_
  rintro r ρ ⟨w, rfl, hw⟩
  refine ⟨_, rfl, ?_⟩
  rw [e39, e40] at hw
  by_cases hv : 0 ≤ s ∧ s < 4
  · obtain ⟨q40, q37, q⟩ := h.2.hsh s hv.1 hv.2
    rcases hz with ⟨c, rfl, rfl⟩ | ⟨c, rfl, rfl⟩ | ⟨c, rfl, rfl⟩
    · omega
    · rcases hw with ⟨d, rfl, rfl⟩ | ⟨d, rfl, rfl⟩ | ⟨d, rfl, rfl⟩
      · omega
      · exact ⟨rfl, h.note (by omega)⟩
      · rcases q with ⟨q1, q2⟩ | ⟨q1, q2, q3, q4⟩ <;> omega
    · rcases q with ⟨q1, q2⟩ | ⟨q1, q2, q3, q4⟩
      · omega
      · rcases hw with ⟨d, rfl, rfl⟩ | ⟨d, rfl, rfl⟩ | ⟨d, rfl, rfl⟩
        · omega
        · omega
        · have hE : Fr [36, 39] μ (wr (wr μ 36 s (-1)) 39 s (-1)) := (Fr.rf.wr (c := 36) (by decide)).wr (c := 39) (by decide)
          refine ⟨q1, h.1.fr hE (by decide), ?_, ?_, ?_, ?_, ?_⟩
          · have m36 : wr (wr μ 36 s (-1)) 39 s (-1) 36 = fun k' => if k' = s then -1 else μ 36 k' := by rw [wr_nc (by decide), wr_f]
            have m39 : wr (wr μ 36 s (-1)) 39 s (-1) 39 = fun k' => if k' = s then -1 else μ 39 k' := by rw [wr_f, wr_nc (by decide)]
            rw [hE.fn 37 rfl, hE.fn 38 rfl, hE.fn 40 rfl, hE.fn 41 rfl, m36, m39]
            intro s' s0 s1
            have hs := h.2.hsh s' s0 s1
            refine ⟨hs.1, hs.2.1, ?_⟩
            dsimp only
            by_cases he : s' = s
            · rw [if_pos he, if_pos he]; exact Or.inl ⟨rfl, rfl⟩
            · rw [if_neg he, if_neg he]; exact hs.2.2
          · rw [hE.fn 38 rfl]; exact h.2.hi8
          · rw [hE.fn 41 rfl]; exact h.2.hi9
          · rw [hE.fn 120 rfl, hE.fn 121 rfl]; exact h.2.e120
          · rw [hE.fn 121 rfl]; exact h.2.h121
  · rcases hz with ⟨c, rfl, rfl⟩ | ⟨c, rfl, rfl⟩ | ⟨c, rfl, rfl⟩
    · rcases hw with ⟨d, rfl, rfl⟩ | ⟨d, rfl, rfl⟩ | ⟨d, rfl, rfl⟩
      · exact ⟨rfl, h⟩
      · omega
      · omega
    · omega
    · omega
theorem ro_sheet {s form n : Int} {μ : Mem} (h_s : -2147483648 ≤ s ∧ s < 2147483648) (h_form : -2147483648 ≤ form ∧ form < 2147483648) (h_n : -2147483648 ≤ n ∧ n < 2147483648) (h : REL μ) : Mc kX8_sheet [.inr (.inr 0), .inl s, .inl form, .inl n] μ (pI (fun z ν => Mc kX9_sheet [.inr (.inr 9), .inl s, .inl form, .inl n] ν (pI (fun w ρ => z = w ∧ REL ρ)))) := by
  refine Mc.mono (c_X8_sheet h_s h_form h_n) ?_
  rintro r ν ⟨z, rfl, hz⟩
  refine ⟨_, rfl, Mc.mono (c_X9_sheet h_s h_form h_n) ?_⟩
  rintro r ρ ⟨w, rfl, hw⟩
  refine ⟨_, rfl, ?_⟩
  rcases hz with ⟨c, rfl, rfl⟩ | ⟨c, rfl, rfl⟩ | ⟨c, rfl, hz⟩
  · rcases hw with ⟨d, rfl, rfl⟩ | ⟨d, rfl, rfl⟩ | ⟨d, rfl, rfl⟩
    · exact ⟨rfl, h⟩
    · omega
    · omega
  · rcases hw with ⟨d, rfl, rfl⟩ | ⟨d, rfl, rfl⟩ | ⟨d, rfl, rfl⟩
    · omega
    · exact ⟨rfl, h.note (by omega)⟩
    · omega
  · rcases hw with ⟨d, rfl, rfl⟩ | ⟨d, rfl, rfl⟩ | ⟨d, rfl, hw⟩
    · omega
    · omega
    · have hF : Fr [36, 37, 38] μ ν := by rw [← hz]; exact ((Fr.rf.wr (c := 37) (by decide)).wr (c := 36) (by decide)).wa (c := 38) (by decide)
      have hG : Fr [39, 40, 41] ν ρ := by rw [← hw]; exact ((Fr.rf.wr (c := 39) (by decide)).wr (c := 40) (by decide)).wa (c := 41) (by decide)
      have hE : Fr [36, 37, 38, 39, 40, 41] μ ρ := (hF.mono (by decide)).tr (hG.mono (by decide))
      have m36 : ρ 36 = fun k' => if k' = s then n else μ 36 k' := by rw [hG.fn 36 rfl, ← hz, wa_nc (by decide), wr_f, wr_nc (by decide)]
      have m37 : ρ 37 = fun k' => if k' = s then form else μ 37 k' := by rw [hG.fn 37 rfl, ← hz, wa_nc (by decide), wr_nc (by decide), wr_f]
      have m38 : ρ 38 = fun k => if 60 * s ≤ k ∧ k < 60 * s + 60 then 0 else μ 38 k := by rw [hG.fn 38 rfl, ← hz, wa_c]
      have m39 : ρ 39 = fun k' => if k' = s then form else μ 39 k' := by rw [← hw, wa_nc (by decide), wr_nc (by decide), wr_f, hF.fn 39 rfl]
      have m40 : ρ 40 = fun k' => if k' = s then n else μ 40 k' := by rw [← hw, wa_nc (by decide), wr_f, wr_nc (by decide), hF.fn 40 rfl]
      have m41 : ρ 41 = fun k => if 60 * s ≤ k ∧ k < 60 * s + n then 0 else μ 41 k := by rw [← hw, wa_c, hF.fn 41 rfl]
      refine ⟨rfl, h.1.fr hE (by decide), ?_, ?_, ?_, ?_, ?_⟩
      · rw [m36, m37, m38, m39, m40, m41]
        intro s' s0 s1
        obtain ⟨a1, a2, a3⟩ := h.2.hsh s' s0 s1
        dsimp only
        by_cases he : s' = s
        · rw [if_pos he, if_pos he, if_pos he, if_pos he]
          refine ⟨by omega, by omega, Or.inr ⟨rfl, rfl, by omega, fun k k0 k1 => ?_⟩⟩
          rw [if_pos (by omega), if_pos (by omega)]
        · rw [if_neg he, if_neg he, if_neg he, if_neg he]
          refine ⟨a1, a2, ?_⟩
          rcases a3 with a3 | ⟨b1, b2, b3, b4⟩
          · exact Or.inl a3
          · refine Or.inr ⟨b1, b2, b3, fun k k0 k1 => ?_⟩
            rw [if_neg (by omega), if_neg (by omega)]
            exact b4 k k0 k1
      · rw [m38]
        intro k k0 k1
        dsimp only
        split
        · omega
        · exact h.2.hi8 k k0 k1
      · rw [m41]
        intro k k0 k1
        dsimp only
        split
        · omega
        · exact h.2.hi9 k k0 k1
      · rw [hE.fn 120 rfl, hE.fn 121 rfl]; exact h.2.e120
      · rw [hE.fn 121 rfl]; exact h.2.h121
theorem ro_lay {s form i v : Int} {μ : Mem} (h_s : -2147483648 ≤ s ∧ s < 2147483648) (h_form : -2147483648 ≤ form ∧ form < 2147483648) (h_i : -2147483648 ≤ i ∧ i < 2147483648) (h_v : -2147483648 ≤ v ∧ v < 2147483648) (h : REL μ) : Mc kX8_lay [.inr (.inr 0), .inl s, .inl form, .inl i, .inl v] μ (pI (fun z ν => Mc kX9_lay [.inr (.inr 9), .inl s, .inl form, .inl i, .inl v] ν (pI (fun w ρ => z = w ∧ REL ρ)))) := by
  refine Mc.mono (c_X8_lay h_s h_form h_i h_v h.2.za h.2.fa) ?_
  rintro r ν ⟨z, rfl, hz⟩
  refine ⟨_, rfl, ?_⟩
  have hM : Fr [38, 120] μ ν := by
    rcases hz with ⟨-, -, rfl⟩ | ⟨-, -, rfl⟩ | ⟨-, -, rfl⟩ | ⟨-, -, rfl⟩ | ⟨-, -, rfl⟩
    · exact Fr.rf
    · exact Fr.rf.wr (c := 120) (by decide)
    · exact Fr.rf.wr (c := 120) (by decide)
    · exact Fr.rf.wr (c := 120) (by decide)
    · exact Fr.rf.wr (c := 38) (by decide)
  have e39 := hM.fn 39 rfl
  have e40 := hM.fn 40 rfl
  have e41 := hM.fn 41 rfl
  refine Mc.mono (c_X9_lay h_s h_form h_i h_v (by rw [e39, e40]; exact h.2.fm)) ?_
  rintro r ρ ⟨w, rfl, hw⟩
  refine ⟨_, rfl, ?_⟩
  rw [e39, e40] at hw
  try rw [e41] at hw
  by_cases hv : 0 ≤ s ∧ s < 4
  · obtain ⟨q40, q37, q⟩ := h.2.hsh s hv.1 hv.2
    have qq : (μ 36 s = -1 ∧ μ 39 s = -1) ∨ (μ 36 s = μ 40 s ∧ μ 37 s = μ 39 s ∧ (0 ≤ μ 39 s ∧ μ 39 s ≤ 2)) := by
      rcases q with q | ⟨q1, q2, q3, -⟩
      · exact Or.inl q
      · exact Or.inr ⟨q1, q2, q3⟩
    rcases hz with ⟨c, rfl, rfl⟩ | ⟨c, rfl, rfl⟩ | ⟨c, rfl, rfl⟩ | ⟨c, rfl, rfl⟩ | ⟨c, rfl, rfl⟩
    · rcases hw with ⟨d, rfl, rfl⟩ | ⟨d, rfl, rfl⟩ | ⟨d, rfl, rfl⟩ | ⟨d, rfl, rfl⟩ | ⟨d, rfl, rfl⟩
      · exact ⟨rfl, h⟩
      · omega
      · omega
      · omega
      · omega
    · rcases hw with ⟨d, rfl, rfl⟩ | ⟨d, rfl, rfl⟩ | ⟨d, rfl, rfl⟩ | ⟨d, rfl, rfl⟩ | ⟨d, rfl, rfl⟩
      · omega
      · exact ⟨rfl, h.note (by omega)⟩
      · omega
      · omega
      · omega
    · rcases hw with ⟨d, rfl, rfl⟩ | ⟨d, rfl, rfl⟩ | ⟨d, rfl, rfl⟩ | ⟨d, rfl, rfl⟩ | ⟨d, rfl, rfl⟩
      · omega
      · omega
      · exact ⟨rfl, h.note (by omega)⟩
      · omega
      · omega
    · rcases hw with ⟨d, rfl, rfl⟩ | ⟨d, rfl, rfl⟩ | ⟨d, rfl, rfl⟩ | ⟨d, rfl, rfl⟩ | ⟨d, rfl, rfl⟩
      · omega
      · omega
      · omega
      · exact ⟨rfl, h.note (by omega)⟩
      · omega
    · rcases hw with ⟨d, rfl, rfl⟩ | ⟨d, rfl, rfl⟩ | ⟨d, rfl, rfl⟩ | ⟨d, rfl, rfl⟩ | ⟨d, rfl, rfl⟩
      · omega
      · omega
      · omega
      · omega
      · have hE : Fr [38, 41, 42] μ (wr (wr μ 38 (60 * s + i) (cutF (μ 37 s) v)) 41 (60 * s + i) (cutF form v)) := (Fr.rf.wr (c := 38) (by decide)).wr (c := 41) (by decide)
        have m38 : wr (wr μ 38 (60 * s + i) (cutF (μ 37 s) v)) 41 (60 * s + i) (cutF form v) 38 = fun k' => if k' = 60 * s + i then cutF (μ 37 s) v else μ 38 k' := by rw [wr_nc (by decide), wr_f]
        have m41 : wr (wr μ 38 (60 * s + i) (cutF (μ 37 s) v)) 41 (60 * s + i) (cutF form v) 41 = fun k' => if k' = 60 * s + i then cutF form v else μ 41 k' := by rw [wr_f, wr_nc (by decide)]
        have hc := cutF_in (form := form) h_v
        have e37 : μ 37 s = form := by omega
        refine ⟨rfl, h.items hE ?_ ?_ ?_⟩
        · rw [m38, e37]
          intro k k0 k1
          dsimp only
          split
          · exact hc
          · exact h.2.hi8 k k0 k1
        · rw [m41]
          intro k k0 k1
          dsimp only
          split
          · exact hc
          · exact h.2.hi9 k k0 k1
        · rw [m38, m41, e37]
          intro s' s0 s1 hf k k0 k1
          dsimp only
          split
          · rfl
          · exact h.2.it s0 s1 hf k0 k1
  · rcases hz with ⟨c, rfl, rfl⟩ | ⟨c, rfl, rfl⟩ | ⟨c, rfl, rfl⟩ | ⟨c, rfl, rfl⟩ | ⟨c, rfl, rfl⟩
    · rcases hw with ⟨d, rfl, rfl⟩ | ⟨d, rfl, rfl⟩ | ⟨d, rfl, rfl⟩ | ⟨d, rfl, rfl⟩ | ⟨d, rfl, rfl⟩
      · exact ⟨rfl, h⟩
      · omega
      · omega
      · omega
      · omega
    · omega
    · omega
    · omega
    · omega
theorem ro_get {s form i : Int} {μ : Mem} (h_s : -2147483648 ≤ s ∧ s < 2147483648) (h_form : -2147483648 ≤ form ∧ form < 2147483648) (h_i : -2147483648 ≤ i ∧ i < 2147483648) (h : REL μ) : Mc kX8_get [.inr (.inr 0), .inl s, .inl form, .inl i] μ (pI (fun z ν => Mc kX9_get [.inr (.inr 9), .inl s, .inl form, .inl i] ν (pI (fun w ρ => z = w ∧ REL ρ)))) := by
  refine Mc.mono (c_X8_get h_s h_form h_i h.2.za h.2.fa) ?_
  rintro r ν ⟨z, rfl, hz⟩
  refine ⟨_, rfl, ?_⟩
  have hM : Fr [120] μ ν := by
    rcases hz with ⟨-, -, rfl⟩ | ⟨-, -, rfl⟩ | ⟨-, -, rfl⟩ | ⟨-, -, rfl⟩ | ⟨-, -, rfl⟩
    · exact Fr.rf
    · exact Fr.rf.wr (c := 120) (by decide)
    · exact Fr.rf.wr (c := 120) (by decide)
    · exact Fr.rf.wr (c := 120) (by decide)
    · exact Fr.rf
  have e39 := hM.fn 39 rfl
  have e40 := hM.fn 40 rfl
  have e41 := hM.fn 41 rfl
  refine Mc.mono (c_X9_get h_s h_form h_i (by rw [e39, e40]; exact h.2.fm)) ?_
  rintro r ρ ⟨w, rfl, hw⟩
  refine ⟨_, rfl, ?_⟩
  rw [e39, e40] at hw
  try rw [e41] at hw
  by_cases hv : 0 ≤ s ∧ s < 4
  · obtain ⟨q40, q37, q⟩ := h.2.hsh s hv.1 hv.2
    have qq : (μ 36 s = -1 ∧ μ 39 s = -1) ∨ (μ 36 s = μ 40 s ∧ μ 37 s = μ 39 s ∧ (0 ≤ μ 39 s ∧ μ 39 s ≤ 2)) := by
      rcases q with q | ⟨q1, q2, q3, -⟩
      · exact Or.inl q
      · exact Or.inr ⟨q1, q2, q3⟩
    rcases hz with ⟨c, rfl, rfl⟩ | ⟨c, rfl, rfl⟩ | ⟨c, rfl, rfl⟩ | ⟨c, rfl, rfl⟩ | ⟨c, rfl, rfl⟩
    · rcases hw with ⟨d, rfl, rfl⟩ | ⟨d, rfl, rfl⟩ | ⟨d, rfl, rfl⟩ | ⟨d, rfl, rfl⟩ | ⟨d, rfl, rfl⟩
      · exact ⟨rfl, h⟩
      · omega
      · omega
      · omega
      · omega
    · rcases hw with ⟨d, rfl, rfl⟩ | ⟨d, rfl, rfl⟩ | ⟨d, rfl, rfl⟩ | ⟨d, rfl, rfl⟩ | ⟨d, rfl, rfl⟩
      · omega
      · exact ⟨rfl, h.note (by omega)⟩
      · omega
      · omega
      · omega
    · rcases hw with ⟨d, rfl, rfl⟩ | ⟨d, rfl, rfl⟩ | ⟨d, rfl, rfl⟩ | ⟨d, rfl, rfl⟩ | ⟨d, rfl, rfl⟩
      · omega
      · omega
      · exact ⟨rfl, h.note (by omega)⟩
      · omega
      · omega
    · rcases hw with ⟨d, rfl, rfl⟩ | ⟨d, rfl, rfl⟩ | ⟨d, rfl, rfl⟩ | ⟨d, rfl, rfl⟩ | ⟨d, rfl, rfl⟩
      · omega
      · omega
      · omega
      · exact ⟨rfl, h.note (by omega)⟩
      · omega
    · rcases hw with ⟨d, rfl, rfl⟩ | ⟨d, rfl, rfl⟩ | ⟨d, rfl, rfl⟩ | ⟨d, rfl, rfl⟩ | ⟨d, rfl, rfl⟩
      · omega
      · omega
      · omega
      · omega
      · rcases q with ⟨q1, q2⟩ | ⟨q1, q2, q3, q4⟩
        · omega
        · exact ⟨q4 i (by omega) (by omega), h⟩
  · rcases hz with ⟨c, rfl, rfl⟩ | ⟨c, rfl, rfl⟩ | ⟨c, rfl, rfl⟩ | ⟨c, rfl, rfl⟩ | ⟨c, rfl, rfl⟩
    · rcases hw with ⟨d, rfl, rfl⟩ | ⟨d, rfl, rfl⟩ | ⟨d, rfl, rfl⟩ | ⟨d, rfl, rfl⟩ | ⟨d, rfl, rfl⟩
      · exact ⟨rfl, h⟩
      · omega
      · omega
      · omega
      · omega
    · omega
    · omega
    · omega
    · omega
theorem ro_copy {s i t j n : Int} {μ : Mem} (h_s : -2147483648 ≤ s ∧ s < 2147483648) (h_i : -2147483648 ≤ i ∧ i < 2147483648) (h_t : -2147483648 ≤ t ∧ t < 2147483648) (h_j : -2147483648 ≤ j ∧ j < 2147483648) (h_n : -2147483648 ≤ n ∧ n < 2147483648) (h : REL μ) : Mc kX8_copy [.inr (.inr 0), .inl s, .inl i, .inl t, .inl j, .inl n] μ (pI (fun z ν => Mc kX9_copy [.inr (.inr 9), .inl s, .inl i, .inl t, .inl j, .inl n] ν (pI (fun w ρ => z = w ∧ REL ρ)))) := by
  refine Mc.mono (c_X8_copy h_s h_i h_t h_j h_n h.2.za h.2.fa) ?_
  rintro r ν ⟨z, rfl, hz⟩
  refine ⟨_, rfl, ?_⟩
  have hM : Fr [38, 120] μ ν := by
    rcases hz with ⟨-, -, rfl⟩ | ⟨-, -, rfl⟩ | ⟨-, -, rfl⟩ | ⟨-, -, rfl⟩ | ⟨-, -, rfl⟩
    · exact Fr.rf
    · exact Fr.rf.wr (c := 120) (by decide)
    · exact Fr.rf.wr (c := 120) (by decide)
    · exact Fr.rf.wr (c := 120) (by decide)
    · exact Fr.rf.wa (c := 38) (by decide)
  have e39 := hM.fn 39 rfl
  have e40 := hM.fn 40 rfl
  have e41 := hM.fn 41 rfl
  have e42 := hM.fn 42 rfl
  refine Mc.mono (c_X9_copy h_s h_i h_t h_j h_n (by rw [e39, e40]; exact h.2.fm)) ?_
  rintro r ρ ⟨w, rfl, hw⟩
  refine ⟨_, rfl, ?_⟩
  rw [e39, e40] at hw
  by_cases hv : (0 ≤ s ∧ s < 4) ∧ (0 ≤ t ∧ t < 4)
  · obtain ⟨p40, p37, p⟩ := h.2.hsh s hv.1.1 hv.1.2
    obtain ⟨q40, q37, q⟩ := h.2.hsh t hv.2.1 hv.2.2
    have pp : (μ 36 s = -1 ∧ μ 39 s = -1) ∨ (μ 36 s = μ 40 s ∧ μ 37 s = μ 39 s ∧ (0 ≤ μ 39 s ∧ μ 39 s ≤ 2)) := by
      rcases p with p | ⟨p1, p2, p3, -⟩
      · exact Or.inl p
      · exact Or.inr ⟨p1, p2, p3⟩
    have qq : (μ 36 t = -1 ∧ μ 39 t = -1) ∨ (μ 36 t = μ 40 t ∧ μ 37 t = μ 39 t ∧ (0 ≤ μ 39 t ∧ μ 39 t ≤ 2)) := by
      rcases q with q | ⟨q1, q2, q3, -⟩
      · exact Or.inl q
      · exact Or.inr ⟨q1, q2, q3⟩
    clear p q
    rcases hz with ⟨c, rfl, hz⟩ | ⟨c, rfl, hz⟩ | ⟨c, rfl, hz⟩ | ⟨c, rfl, hz⟩ | ⟨c, rfl, hz⟩
    · rcases hw with ⟨d, rfl, hw⟩ | ⟨d, rfl, hw⟩ | ⟨d, rfl, hw⟩ | ⟨d, rfl, hw⟩ | ⟨d, rfl, hw⟩
      · subst hz; subst hw; exact ⟨rfl, h⟩
      · omega
      · omega
      · omega
      · omega
    · rcases hw with ⟨d, rfl, hw⟩ | ⟨d, rfl, hw⟩ | ⟨d, rfl, hw⟩ | ⟨d, rfl, hw⟩ | ⟨d, rfl, hw⟩
      · omega
      · subst hz; subst hw; exact ⟨rfl, h.note (by omega)⟩
      · omega
      · omega
      · omega
    · rcases hw with ⟨d, rfl, hw⟩ | ⟨d, rfl, hw⟩ | ⟨d, rfl, hw⟩ | ⟨d, rfl, hw⟩ | ⟨d, rfl, hw⟩
      · omega
      · omega
      · subst hz; subst hw; exact ⟨rfl, h.note (by omega)⟩
      · omega
      · omega
    · rcases hw with ⟨d, rfl, hw⟩ | ⟨d, rfl, hw⟩ | ⟨d, rfl, hw⟩ | ⟨d, rfl, hw⟩ | ⟨d, rfl, hw⟩
      · omega
      · omega
      · omega
      · subst hz; subst hw; exact ⟨rfl, h.note (by omega)⟩
      · omega
    · rcases hw with ⟨d, rfl, hw⟩ | ⟨d, rfl, hw⟩ | ⟨d, rfl, hw⟩ | ⟨d, rfl, hw⟩ | ⟨d, rfl, hw⟩
      · omega
      · omega
      · omega
      · omega
      · rw [e41, e42] at hw
        have hE : Fr [38, 41, 42] μ ρ := by
          rw [← hw, ← hz]
          exact ((Fr.rf.wa (c := 38) (by decide)).wa (c := 42) (by decide)).wa (c := 41) (by decide)
        have m38 : ρ 38 = cpy (μ 38) (μ 38) (60 * s + i) (60 * t + j) n := by rw [← hw, wa_nc (by decide), wa_nc (by decide), ← hz, wa_c]
        have m41 : ρ 41 = cpy (μ 41) (μ 41) (60 * s + i) (60 * t + j) n := by rw [← hw, wa_c]
        refine ⟨rfl, h.items hE ?_ ?_ ?_⟩
        · rw [m38]
          intro k k0 k1
          unfold cpy
          split
          · exact h.2.hi8 _ (by omega) (by omega)
          · exact h.2.hi8 k k0 k1
        · rw [m41]
          intro k k0 k1
          unfold cpy
          split
          · exact h.2.hi9 _ (by omega) (by omega)
          · exact h.2.hi9 k k0 k1
        · rw [m38, m41]
          intro s' s0 s1 hf k k0 k1
          unfold cpy
          split
          · have := h.2.it (s := s) (k := i + (60 * s' + k - (60 * t + j))) hv.1.1 hv.1.2 (by omega) (by omega) (by omega)
            rw [show 60 * s + i + (60 * s' + k - (60 * t + j)) = 60 * s + (i + (60 * s' + k - (60 * t + j))) by omega]
            exact this
          · exact h.2.it s0 s1 hf k0 k1
  · rcases hz with ⟨c, rfl, hz⟩ | ⟨c, rfl, hz⟩ | ⟨c, rfl, hz⟩ | ⟨c, rfl, hz⟩ | ⟨c, rfl, hz⟩
    · rcases hw with ⟨d, rfl, hw⟩ | ⟨d, rfl, hw⟩ | ⟨d, rfl, hw⟩ | ⟨d, rfl, hw⟩ | ⟨d, rfl, hw⟩
      · subst hz; subst hw; exact ⟨rfl, h⟩
      · omega
      · omega
      · omega
      · omega
    · omega
    · omega
    · omega
    · omega
theorem ro_write {p sh : Int} {μ : Mem} (h_p : -2147483648 ≤ p ∧ p < 2147483648) (h_sh : -2147483648 ≤ sh ∧ sh < 2147483648) (h : REL μ) : Mc kX8_write [.inr (.inr 0), .inl p, .inl sh] μ (pI (fun z ν => Mc kX9_write [.inr (.inr 9), .inl p, .inl sh] ν (pI (fun w ρ => z = w ∧ REL ρ)))) := by
  have hnn := h.1.hn
  refine Mc.mono (c_X8_write (h_p := h_p) (h_sh := h_sh) (hza := h.2.za) (hfa := h.2.fa) (hQ := h.1.hQ) (hn := h.1.hn) (e10 := h.1.e10) (e11 := h.1.e11) (hhd := h.1.hhd) (hlv := h.1.hlv)) ?_
  rintro r ν ⟨z, rfl, rfl, hF, n38, n120⟩
  have e39 := hF.fn 39 rfl
  have e40 := hF.fn 40 rfl
  have e41 := hF.fn 41 rfl
  have e121 := hF.fn 121 rfl
  refine ⟨_, rfl, Mc.mono (c_X9_write (h_p := h_p) (h_sh := h_sh) (hsz := by rw [e40]; exact h.2.sz) (hfm := by rw [e39]; exact h.2.fm') (e43 := hF.fn 43 rfl) (e122 := by rw [hF.fn 122 rfl]) (hn := h.1.hn) (ht := h.1.ht) (e47 := hF.fn 47 rfl) (e48 := hF.fn 48 rfl) (hhd := h.1.hhd) (hlv := h.1.hlv)) ?_⟩
  rintro r ρ ⟨w, rfl, rfl, hG, r41, r121⟩
  refine ⟨_, rfl, ?_⟩
  have m38 := hG.fn 38 rfl
  have m120 := hG.at 120 rfl 0
  have e120 := h.2.e120
  have r0 := h.2.h121
  have hR0 : R0 ρ := (h.1.fr hF (by decide)).fr hG (by decide)
  have g36 := (hG.fn 36 rfl).trans (hF.fn 36 rfl)
  have g37 := (hG.fn 37 rfl).trans (hF.fn 37 rfl)
  have g39 := (hG.fn 39 rfl).trans e39
  have g40 := (hG.fn 40 rfl).trans e40
  have hK := cfg_KR (tx := μ 43) hnn.1 h.1.hhd h.1.hlv
  have hP := pPe_in (tx := μ 43) hnn.1
  have hT := pTa_in (tx := μ 43) hnn.1
  have hun : (∀ k, ρ 38 k = μ 38 k) → (∀ k, ρ 41 k = μ 41 k) → ρ 120 0 = ρ 121 0 → (-2147483648 ≤ ρ 121 0 ∧ ρ 121 0 < 2147483648) → REL ρ := fun a b c d => by
    refine ⟨hR0, h.2.items g36 g37 g39 g40 (fun k k0 k1 => by rw [a]; exact h.2.hi8 k k0 k1) (fun k k0 k1 => by rw [b]; exact h.2.hi9 k k0 k1) (fun s s0 s1 hf k k0 k1 => by rw [a, b]; exact h.2.it s0 s1 hf k0 k1) c d⟩
  by_cases hv : (0 ≤ p ∧ p < pPe (μ 43) (μ 122 0)) ∧ (0 ≤ sh ∧ sh ≤ 3)
  · rw [if_pos hv, if_pos hv, e39]
    rcases h.2.rl sh hv.2.1 (by omega) with ⟨q1, q2⟩ | ⟨q1, q2, q3, q4, q5⟩
    · rw [if_pos q1, if_pos (by omega)]
      refine ⟨rfl, hun (fun k => ?_) (fun k => ?_) ?_ ?_⟩
      · rw [m38, n38, if_neg (fun q => q.2 q1), wtJ_0]
      · rw [r41, if_neg (fun q => by rw [e39] at q; omega), wtI_0, e41]
      · rw [m120, n120, r121, if_pos ⟨hv, q1⟩, if_pos ⟨hv, by rw [e39]; omega⟩]
      · rw [r121, if_pos ⟨hv, by rw [e39]; omega⟩]; omega
    · have hm : wtM ν (pTa (μ 43) (μ 122 0)) sh = min (μ 36 sh) (pTa (μ 43) (μ 122 0)) := by
        unfold wtM
        rw [e40]
        split <;> omega
      rw [if_neg (by omega), if_neg (by omega), hm]
      have a38 : ∀ k, ρ 38 k = if 60 * sh ≤ k ∧ k < 60 * sh + min (μ 36 sh) (pTa (μ 43) (μ 122 0)) then cutF (μ 39 sh) (kq (cfg (μ 43) (μ 122 0) (μ 47) (μ 48)) p (k - 60 * sh)) else μ 38 k := fun k => by
        rw [m38, n38, if_pos ⟨hv, by omega⟩]
        unfold wtJ
        rw [q2]
      have a41 : ∀ k, ρ 41 k = if 60 * sh ≤ k ∧ k < 60 * sh + min (μ 36 sh) (pTa (μ 43) (μ 122 0)) then cutF (μ 39 sh) (kq (cfg (μ 43) (μ 122 0) (μ 47) (μ 48)) p (k - 60 * sh)) else μ 41 k := fun k => by
        rw [r41, if_pos ⟨hv, by rw [e39]; omega⟩, hm]
        unfold wtI
        rw [e39, e41]
      have hcut : ∀ k : Int, 60 * sh ≤ k ∧ k < 60 * sh + min (μ 36 sh) (pTa (μ 43) (μ 122 0)) → -2147483648 ≤ cutF (μ 39 sh) (kq (cfg (μ 43) (μ 122 0) (μ 47) (μ 48)) p (k - 60 * sh)) ∧ cutF (μ 39 sh) (kq (cfg (μ 43) (μ 122 0) (μ 47) (μ 48)) p (k - 60 * sh)) < 2147483648 := fun k hk => by
        have hq := kq_in hK (p := p) (i := k - 60 * sh) (by omega) (by omega)
        exact cutF_in (by omega)
      refine ⟨rfl, hR0, h.2.items g36 g37 g39 g40 (fun k k0 k1 => ?_) (fun k k0 k1 => ?_) (fun s s0 s1 hf k k0 k1 => ?_) ?_ ?_⟩
      · rw [a38]
        split
        · rename_i hk; exact hcut k hk
        · exact h.2.hi8 k k0 k1
      · rw [a41]
        split
        · rename_i hk; exact hcut k hk
        · exact h.2.hi9 k k0 k1
      · rw [a38, a41]
        split
        · rfl
        · exact h.2.it s0 s1 hf k0 k1
      · rw [m120, n120, r121, if_neg (fun q => by omega), if_neg (fun q => by rw [e39] at q; omega), e121]; exact e120
      · rw [r121, if_neg (fun q => by rw [e39] at q; omega), e121]; exact r0
  · rw [if_neg hv, if_neg hv]
    refine ⟨rfl, hun (fun k => ?_) (fun k => ?_) ?_ ?_⟩
    · rw [m38, n38, if_neg (fun q => hv q.1), wtJ_0]
    · rw [r41, if_neg (fun q => hv q.1), wtI_0, e41]
    · rw [m120, n120, r121, if_neg (fun q => hv q.1), if_neg (fun q => hv q.1), e121]; exact e120
    · rw [r121, if_neg (fun q => hv q.1), e121]; exact r0
