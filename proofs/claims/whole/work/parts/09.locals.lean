theorem pairs_of {ad : Nat → Nat} {n : Nat} {ls : Array Slot} {L : List (Option AV)} (h : LH ad n ls L) : ∃ l : List (Nat × Value), lv_has ls n l ∧ ∀ (i : Nat) (v : AV), L[i]? = some (some v) → (i, cv ad v) ∈ l := by
  refine ⟨(List.range L.length).filterMap (fun i => (L[i]?.join).map (fun v => (i, cv ad v))), ⟨h.1, h.2.1, fun q hq => ?_⟩, fun i v hi => ?_⟩
  · obtain ⟨i, -, hi⟩ := List.mem_filterMap.mp hq
    cases hL : L[i]? with
    | none => simp [hL] at hi
    | some o =>
      cases o with
      | none => simp [hL] at hi
      | some v =>
        simp only [hL, Option.join_some, Option.map_some, Option.some.injEq] at hi
        subst hi
        exact h.2.2 i v hL
  · refine List.mem_filterMap.mpr ⟨i, List.mem_range.mpr (List.getElem?_eq_some_iff.mp hi).1, ?_⟩
    simp [hi]
def nolong (v : Option AV) : Bool := match v with
  | some (.inr (.inl _)) => false
  | _ => true
/-- the locals behind a store of one word at i -/
theorem LH.set1 {ad : Nat → Nat} {n : Nat} {ls' : Array Slot} {L : List (Option AV)} {i : Nat} {v : AV} {l : List (Nat × Value)} (hp : ∀ (i : Nat) (v : AV), L[i]? = some (some v) → (i, cv ad v) ∈ l)
    (h' : lv_has ls' n ((i, cv ad v) :: l.filter (fun q => !(q.1 == i) && !(q.1 + 1 == i && q.2.category == 2)))) (hn : ∀ j, j + 1 = i → nolong (L[j]?.join) = true) : LH ad n ls' (L.set i (some v)) := by
  refine ⟨h'.1, h'.2.1, fun j w hj => ?_⟩
  by_cases hji : j = i
  · subst hji
    rw [List.getElem?_set_self'] at hj
    cases hL : L[j]? with
    | none => simp [hL] at hj
    | some o =>
      simp [hL] at hj
      subst hj
      exact h'.2.2 _ List.mem_cons_self
  · rw [List.getElem?_set_ne (Ne.symm hji)] at hj
    refine h'.2.2 _ (List.mem_cons_of_mem _ (List.mem_filter.mpr ⟨hp j w hj, ?_⟩))
    have h2 : ¬ (j + 1 = i ∧ (cv ad w).category = 2) := by
      rintro ⟨a, b⟩
      have h3 := hn j a
      rw [hj, cv_cat] at *
      rcases w with z | z | z <;> simp [nolong, avc] at h3 b
    simp only [Bool.and_eq_true, Bool.not_eq_true', beq_eq_false_iff_ne, Bool.and_eq_false_iff, ne_eq]
    refine ⟨hji, ?_⟩
    by_cases ha : j + 1 = i
    · exact Or.inr (fun b => h2 ⟨ha, b⟩)
    · exact Or.inl ha
/-- .. of two words -/
theorem LH.set2 {ad : Nat → Nat} {n : Nat} {ls' : Array Slot} {L : List (Option AV)} {i : Nat} {v : AV} {l : List (Nat × Value)} (hp : ∀ (i : Nat) (v : AV), L[i]? = some (some v) → (i, cv ad v) ∈ l)
    (h' : lv_has ls' n ((i, cv ad v) :: l.filter (fun q => !(q.1 == i) && (!(q.1 == i + 1) && !(q.1 + 1 == i && q.2.category == 2))))) (hn : ∀ j, j + 1 = i → nolong (L[j]?.join) = true) : LH ad n ls' ((L.set i (some v)).set (i + 1) none) := by
  refine ⟨h'.1, h'.2.1, fun j w hj => ?_⟩
  by_cases hj1 : j = i + 1
  · subst hj1
    rw [List.getElem?_set_self'] at hj
    cases hL : (L.set i (some v))[i + 1]? with
    | none => simp [hL] at hj
    | some o => simp [hL] at hj
  rw [List.getElem?_set_ne (Ne.symm hj1)] at hj
  by_cases hji : j = i
  · subst hji
    rw [List.getElem?_set_self'] at hj
    cases hL : L[j]? with
    | none => simp [hL] at hj
    | some o =>
      simp [hL] at hj
      subst hj
      exact h'.2.2 _ List.mem_cons_self
  · rw [List.getElem?_set_ne (Ne.symm hji)] at hj
    refine h'.2.2 _ (List.mem_cons_of_mem _ (List.mem_filter.mpr ⟨hp j w hj, ?_⟩))
    have h2 : ¬ (j + 1 = i ∧ (cv ad w).category = 2) := by
      rintro ⟨a, b⟩
      have h3 := hn j a
      rw [hj, cv_cat] at *
      rcases w with z | z | z <;> simp [nolong, avc] at h3 b
    simp only [Bool.and_eq_true, Bool.not_eq_true', beq_eq_false_iff_ne, Bool.and_eq_false_iff, ne_eq]
    refine ⟨hji, hj1, ?_⟩
    by_cases ha : j + 1 = i
    · exact Or.inr (fun b => h2 ⟨ha, b⟩)
    · exact Or.inl ha

theorem g_iload_n {K : MK} {pc : Nat} {L : List (Option AV)} {st : List AV} {μ : Mem} {post : Option AV → Mem → Prop} {i : Fin 4} {z : Int} (d : decode K.2.1 pc = .ok (.iload_n i, 1)) (hL : L[(i : Nat)]? = some (some (.inl z))) (k : AW K (pc + 1) L (.inl z :: st) μ post) : AW K pc L st μ post := by
  intro G p l e s m args below meth c C H locs ls hP hS hl
  exact lv_iload_n C.1 C.2.1 d rfl (hl.2.2 _ _ hL) (k G p l e s m args below meth c C H locs ls hP hS hl)

theorem g_istore_n {K : MK} {pc : Nat} {L : List (Option AV)} {st : List AV} {μ : Mem} {post : Option AV → Mem → Prop} {i : Fin 4} {z : Int} (d : decode K.2.1 pc = .ok (.istore_n i, 1)) (hi : (i : Nat) < K.2.2.1) (hn : ∀ j, j + 1 = (i : Nat) → nolong (L[j]?.join) = true) (k : AW K (pc + 1) (L.set i (some (.inl z))) st μ post) : AW K pc L (.inl z :: st) μ post := by
  intro G p l e s m args below meth c C H locs ls hP hS hl
  obtain ⟨l0, h1, h2⟩ := pairs_of hl
  exact lv_istore_n C.1 C.2.1 d rfl h1 hi rfl (fun ls' h' => k G p l e s m args below meth c C H locs ls' hP hS (LH.set1 h2 h' hn))

theorem g_iload {K : MK} {pc : Nat} {L : List (Option AV)} {st : List AV} {μ : Mem} {post : Option AV → Mem → Prop} {i : Nat} {z : Int} (d : decode K.2.1 pc = .ok (.iload i, 2)) (hL : L[i]? = some (some (.inl z))) (k : AW K (pc + 2) L (.inl z :: st) μ post) : AW K pc L st μ post := by
  intro G p l e s m args below meth c C H locs ls hP hS hl
  exact lv_iload C.1 C.2.1 d (hl.2.2 _ _ hL) (k G p l e s m args below meth c C H locs ls hP hS hl)

theorem g_istore {K : MK} {pc : Nat} {L : List (Option AV)} {st : List AV} {μ : Mem} {post : Option AV → Mem → Prop} {i : Nat} {z : Int} (d : decode K.2.1 pc = .ok (.istore i, 2)) (hi : i < K.2.2.1) (hn : ∀ j, j + 1 = i → nolong (L[j]?.join) = true) (k : AW K (pc + 2) (L.set i (some (.inl z))) st μ post) : AW K pc L (.inl z :: st) μ post := by
  intro G p l e s m args below meth c C H locs ls hP hS hl
  obtain ⟨l0, h1, h2⟩ := pairs_of hl
  exact lv_istore C.1 C.2.1 d h1 hi rfl (fun ls' h' => k G p l e s m args below meth c C H locs ls' hP hS (LH.set1 (v := .inl z) h2 h' hn))

theorem g_lload_n {K : MK} {pc : Nat} {L : List (Option AV)} {st : List AV} {μ : Mem} {post : Option AV → Mem → Prop} {i : Fin 4} {z : Int} (d : decode K.2.1 pc = .ok (.lload_n i, 1)) (hL : L[(i : Nat)]? = some (some (.inr (.inl z)))) (k : AW K (pc + 1) L (.inr (.inl z) :: st) μ post) : AW K pc L st μ post := by
  intro G p l e s m args below meth c C H locs ls hP hS hl
  exact lv_lload_n C.1 C.2.1 d rfl (hl.2.2 _ _ hL) (k G p l e s m args below meth c C H locs ls hP hS hl)

theorem g_lstore_n {K : MK} {pc : Nat} {L : List (Option AV)} {st : List AV} {μ : Mem} {post : Option AV → Mem → Prop} {i : Fin 4} {z : Int} (d : decode K.2.1 pc = .ok (.lstore_n i, 1)) (hi : (i : Nat) + 1 < K.2.2.1) (hn : ∀ j, j + 1 = (i : Nat) → nolong (L[j]?.join) = true) (k : AW K (pc + 1) ((L.set i (some (.inr (.inl z)))).set ((i : Nat) + 1) none) st μ post) : AW K pc L (.inr (.inl z) :: st) μ post := by
  intro G p l e s m args below meth c C H locs ls hP hS hl
  obtain ⟨l0, h1, h2⟩ := pairs_of hl
  exact lv_lstore_n C.1 C.2.1 d rfl h1 hi rfl (fun ls' h' => k G p l e s m args below meth c C H locs ls' hP hS (LH.set2 h2 h' hn))

theorem g_lload {K : MK} {pc : Nat} {L : List (Option AV)} {st : List AV} {μ : Mem} {post : Option AV → Mem → Prop} {i : Nat} {z : Int} (d : decode K.2.1 pc = .ok (.lload i, 2)) (hL : L[i]? = some (some (.inr (.inl z)))) (k : AW K (pc + 2) L (.inr (.inl z) :: st) μ post) : AW K pc L st μ post := by
  intro G p l e s m args below meth c C H locs ls hP hS hl
  exact lv_lload C.1 C.2.1 d (hl.2.2 _ _ hL) (k G p l e s m args below meth c C H locs ls hP hS hl)

theorem g_lstore {K : MK} {pc : Nat} {L : List (Option AV)} {st : List AV} {μ : Mem} {post : Option AV → Mem → Prop} {i : Nat} {z : Int} (d : decode K.2.1 pc = .ok (.lstore i, 2)) (hi : i + 1 < K.2.2.1) (hn : ∀ j, j + 1 = i → nolong (L[j]?.join) = true) (k : AW K (pc + 2) ((L.set i (some (.inr (.inl z)))).set (i + 1) none) st μ post) : AW K pc L (.inr (.inl z) :: st) μ post := by
  intro G p l e s m args below meth c C H locs ls hP hS hl
  obtain ⟨l0, h1, h2⟩ := pairs_of hl
  exact lv_lstore C.1 C.2.1 d h1 hi rfl (fun ls' h' => k G p l e s m args below meth c C H locs ls' hP hS (LH.set2 (v := .inr (.inl z)) h2 h' hn))

theorem g_aload_n {K : MK} {pc : Nat} {L : List (Option AV)} {st : List AV} {μ : Mem} {post : Option AV → Mem → Prop} {i : Fin 4} {z : Nat} (d : decode K.2.1 pc = .ok (.aload_n i, 1)) (hL : L[(i : Nat)]? = some (some (.inr (.inr z)))) (k : AW K (pc + 1) L (.inr (.inr z) :: st) μ post) : AW K pc L st μ post := by
  intro G p l e s m args below meth c C H locs ls hP hS hl
  exact lv_aload_n C.1 C.2.1 d rfl (hl.2.2 _ _ hL) (k G p l e s m args below meth c C H locs ls hP hS hl)

theorem g_astore_n {K : MK} {pc : Nat} {L : List (Option AV)} {st : List AV} {μ : Mem} {post : Option AV → Mem → Prop} {i : Fin 4} {z : Nat} (d : decode K.2.1 pc = .ok (.astore_n i, 1)) (hi : (i : Nat) < K.2.2.1) (hn : ∀ j, j + 1 = (i : Nat) → nolong (L[j]?.join) = true) (k : AW K (pc + 1) (L.set i (some (.inr (.inr z)))) st μ post) : AW K pc L (.inr (.inr z) :: st) μ post := by
  intro G p l e s m args below meth c C H locs ls hP hS hl
  obtain ⟨l0, h1, h2⟩ := pairs_of hl
  exact lv_astore_n C.1 C.2.1 d rfl h1 hi rfl (fun ls' h' => k G p l e s m args below meth c C H locs ls' hP hS (LH.set1 (v := .inr (.inr z)) h2 h' hn))

theorem g_aload {K : MK} {pc : Nat} {L : List (Option AV)} {st : List AV} {μ : Mem} {post : Option AV → Mem → Prop} {i : Nat} {z : Nat} (d : decode K.2.1 pc = .ok (.aload i, 2)) (hL : L[i]? = some (some (.inr (.inr z)))) (k : AW K (pc + 2) L (.inr (.inr z) :: st) μ post) : AW K pc L st μ post := by
  intro G p l e s m args below meth c C H locs ls hP hS hl
  exact lv_aload C.1 C.2.1 d (hl.2.2 _ _ hL) (k G p l e s m args below meth c C H locs ls hP hS hl)

theorem g_iinc {K : MK} {pc : Nat} {L : List (Option AV)} {st : List AV} {μ : Mem} {post : Option AV → Mem → Prop} {i : Nat} {n z : Int} (d : decode K.2.1 pc = .ok (.iinc i n, 3)) (hL : L[i]? = some (some (.inl z))) (hi : i < K.2.2.1) (hn : ∀ j, j + 1 = i → nolong (L[j]?.join) = true) (k : AW K (pc + 3) (L.set i (some (.inl (z + n)))) st μ post) : AW K pc L st μ post := by
  intro G p l e s m args below meth c C H locs ls hP hS hl
  obtain ⟨l0, h1, h2⟩ := pairs_of hl
  obtain ⟨j, hj⟩ := List.getElem?_of_mem (h2 _ _ hL)
  exact lv_iinc (v := Int32.ofInt (z + n)) C.1 C.2.1 d h1 hj (Int32.ofInt_add _ _).symm hi rfl (fun ls' h' => k G p l e s m args below meth c C H locs ls' hP hS (LH.set1 (v := .inl (z + n)) h2 h' hn))
/-- fewer locals are known -/
def LE : List (Option AV) → List (Option AV) → Prop
  | _, [] => True
  | a :: s, b :: t => (b = none ∨ a = b) ∧ LE s t
  | [], b :: t => b = none ∧ LE [] t
theorem LE.at : ∀ {L L' : List (Option AV)}, LE L L' → ∀ (i : Nat) (v : AV), L'[i]? = some (some v) → L[i]? = some (some v)
  | _, [], _, i, v, h => by simp at h
  | [], b :: t, hh, 0, v, h => by
    have h1 : b = none ∧ LE [] t := hh
    rw [List.getElem?_cons_zero, h1.1] at h
    cases h
  | [], b :: t, hh, i + 1, v, h => by
    have h1 : b = none ∧ LE [] t := hh
    rw [List.getElem?_cons_succ] at h
    have := LE.at (L := []) (L' := t) h1.2 i v h
    simp at this
  | a :: s, b :: t, hh, 0, v, h => by
    have h1 : (b = none ∨ a = b) ∧ LE s t := hh
    rw [List.getElem?_cons_zero] at h ⊢
    rcases h1.1 with q | q
    · rw [q] at h; cases h
    · rw [q]; exact h
  | a :: s, b :: t, hh, i + 1, v, h => by
    have h1 : (b = none ∨ a = b) ∧ LE s t := hh
    rw [List.getElem?_cons_succ] at h ⊢
    exact LE.at h1.2 i v h
theorem s_le {K : MK} {pc : Nat} {L : List (Option AV)} {st : List AV} {μ : Mem} {post : Option AV → Mem → Prop} {L' : List (Option AV)} (h : LE L L') (k : AW K pc L' st μ post) : AW K pc L st μ post := by
  intro G p l e s m args below meth c C H locs ls hP hS hl
  exact k G p l e s m args below meth c C H locs ls hP hS ⟨hl.1, hl.2.1, fun i v hi => hl.2.2 i v (h.at i v hi)⟩

theorem s_iload_0 {K : MK} {pc : Nat} {st : List AV} {μ : Mem} {post : Option AV → Mem → Prop} {tl : List (Option AV)} {z : Int} (d : decode K.2.1 pc = .ok (.iload_n 0, 1)) (k : AW K (pc + 1) (some (.inl z) :: tl) (.inl z :: st) μ post) : AW K pc (some (.inl z) :: tl) st μ post := g_iload_n (i := 0) d rfl k

theorem s_istore_0 {K : MK} {pc : Nat} {st : List AV} {μ : Mem} {post : Option AV → Mem → Prop} {b : Option AV} {tl : List (Option AV)} {z : Int} (d : decode K.2.1 pc = .ok (.istore_n 0, 1)) (hi : 0 < K.2.2.1) (k : AW K (pc + 1) (some (.inl z) :: tl) st μ post) : AW K pc (b :: tl) (.inl z :: st) μ post := g_istore_n (i := 0) d hi (fun j hj => by omega) k

theorem s_iinc_0 {K : MK} {pc : Nat} {st : List AV} {μ : Mem} {post : Option AV → Mem → Prop} {tl : List (Option AV)} {n z : Int} (d : decode K.2.1 pc = .ok (.iinc 0 n, 3)) (hi : 0 < K.2.2.1) (k : AW K (pc + 3) (some (.inl (z + n)) :: tl) st μ post) : AW K pc (some (.inl z) :: tl) st μ post := g_iinc (i := 0) d rfl hi (fun j hj => by omega) k

theorem s_iload_1 {K : MK} {pc : Nat} {st : List AV} {μ : Mem} {post : Option AV → Mem → Prop} {a0 : Option AV} {tl : List (Option AV)} {z : Int} (d : decode K.2.1 pc = .ok (.iload_n 1, 1)) (k : AW K (pc + 1) (a0 :: some (.inl z) :: tl) (.inl z :: st) μ post) : AW K pc (a0 :: some (.inl z) :: tl) st μ post := g_iload_n (i := 1) d rfl k

theorem s_istore_1 {K : MK} {pc : Nat} {st : List AV} {μ : Mem} {post : Option AV → Mem → Prop} {a0 : Option AV} {b : Option AV} {tl : List (Option AV)} {z : Int} (d : decode K.2.1 pc = .ok (.istore_n 1, 1)) (hi : 1 < K.2.2.1) (hn : nolong a0 = true) (k : AW K (pc + 1) (a0 :: some (.inl z) :: tl) st μ post) : AW K pc (a0 :: b :: tl) (.inl z :: st) μ post := g_istore_n (i := 1) d hi (fun j hj => by cases (show j = 0 by omega); exact hn) k

theorem s_iinc_1 {K : MK} {pc : Nat} {st : List AV} {μ : Mem} {post : Option AV → Mem → Prop} {a0 : Option AV} {tl : List (Option AV)} {n z : Int} (d : decode K.2.1 pc = .ok (.iinc 1 n, 3)) (hi : 1 < K.2.2.1) (hn : nolong a0 = true) (k : AW K (pc + 3) (a0 :: some (.inl (z + n)) :: tl) st μ post) : AW K pc (a0 :: some (.inl z) :: tl) st μ post := g_iinc (i := 1) d rfl hi (fun j hj => by cases (show j = 0 by omega); exact hn) k

theorem s_iload_2 {K : MK} {pc : Nat} {st : List AV} {μ : Mem} {post : Option AV → Mem → Prop} {a0 a1 : Option AV} {tl : List (Option AV)} {z : Int} (d : decode K.2.1 pc = .ok (.iload_n 2, 1)) (k : AW K (pc + 1) (a0 :: a1 :: some (.inl z) :: tl) (.inl z :: st) μ post) : AW K pc (a0 :: a1 :: some (.inl z) :: tl) st μ post := g_iload_n (i := 2) d rfl k

theorem s_istore_2 {K : MK} {pc : Nat} {st : List AV} {μ : Mem} {post : Option AV → Mem → Prop} {a0 a1 : Option AV} {b : Option AV} {tl : List (Option AV)} {z : Int} (d : decode K.2.1 pc = .ok (.istore_n 2, 1)) (hi : 2 < K.2.2.1) (hn : nolong a1 = true) (k : AW K (pc + 1) (a0 :: a1 :: some (.inl z) :: tl) st μ post) : AW K pc (a0 :: a1 :: b :: tl) (.inl z :: st) μ post := g_istore_n (i := 2) d hi (fun j hj => by cases (show j = 1 by omega); exact hn) k

theorem s_iinc_2 {K : MK} {pc : Nat} {st : List AV} {μ : Mem} {post : Option AV → Mem → Prop} {a0 a1 : Option AV} {tl : List (Option AV)} {n z : Int} (d : decode K.2.1 pc = .ok (.iinc 2 n, 3)) (hi : 2 < K.2.2.1) (hn : nolong a1 = true) (k : AW K (pc + 3) (a0 :: a1 :: some (.inl (z + n)) :: tl) st μ post) : AW K pc (a0 :: a1 :: some (.inl z) :: tl) st μ post := g_iinc (i := 2) d rfl hi (fun j hj => by cases (show j = 1 by omega); exact hn) k

theorem s_iload_3 {K : MK} {pc : Nat} {st : List AV} {μ : Mem} {post : Option AV → Mem → Prop} {a0 a1 a2 : Option AV} {tl : List (Option AV)} {z : Int} (d : decode K.2.1 pc = .ok (.iload_n 3, 1)) (k : AW K (pc + 1) (a0 :: a1 :: a2 :: some (.inl z) :: tl) (.inl z :: st) μ post) : AW K pc (a0 :: a1 :: a2 :: some (.inl z) :: tl) st μ post := g_iload_n (i := 3) d rfl k

theorem s_istore_3 {K : MK} {pc : Nat} {st : List AV} {μ : Mem} {post : Option AV → Mem → Prop} {a0 a1 a2 : Option AV} {b : Option AV} {tl : List (Option AV)} {z : Int} (d : decode K.2.1 pc = .ok (.istore_n 3, 1)) (hi : 3 < K.2.2.1) (hn : nolong a2 = true) (k : AW K (pc + 1) (a0 :: a1 :: a2 :: some (.inl z) :: tl) st μ post) : AW K pc (a0 :: a1 :: a2 :: b :: tl) (.inl z :: st) μ post := g_istore_n (i := 3) d hi (fun j hj => by cases (show j = 2 by omega); exact hn) k

theorem s_iinc_3 {K : MK} {pc : Nat} {st : List AV} {μ : Mem} {post : Option AV → Mem → Prop} {a0 a1 a2 : Option AV} {tl : List (Option AV)} {n z : Int} (d : decode K.2.1 pc = .ok (.iinc 3 n, 3)) (hi : 3 < K.2.2.1) (hn : nolong a2 = true) (k : AW K (pc + 3) (a0 :: a1 :: a2 :: some (.inl (z + n)) :: tl) st μ post) : AW K pc (a0 :: a1 :: a2 :: some (.inl z) :: tl) st μ post := g_iinc (i := 3) d rfl hi (fun j hj => by cases (show j = 2 by omega); exact hn) k

theorem s_iload_4 {K : MK} {pc : Nat} {st : List AV} {μ : Mem} {post : Option AV → Mem → Prop} {a0 a1 a2 a3 : Option AV} {tl : List (Option AV)} {z : Int} (d : decode K.2.1 pc = .ok (.iload 4, 2)) (k : AW K (pc + 2) (a0 :: a1 :: a2 :: a3 :: some (.inl z) :: tl) (.inl z :: st) μ post) : AW K pc (a0 :: a1 :: a2 :: a3 :: some (.inl z) :: tl) st μ post := g_iload (i := 4) d rfl k

theorem s_istore_4 {K : MK} {pc : Nat} {st : List AV} {μ : Mem} {post : Option AV → Mem → Prop} {a0 a1 a2 a3 : Option AV} {b : Option AV} {tl : List (Option AV)} {z : Int} (d : decode K.2.1 pc = .ok (.istore 4, 2)) (hi : 4 < K.2.2.1) (hn : nolong a3 = true) (k : AW K (pc + 2) (a0 :: a1 :: a2 :: a3 :: some (.inl z) :: tl) st μ post) : AW K pc (a0 :: a1 :: a2 :: a3 :: b :: tl) (.inl z :: st) μ post := g_istore (i := 4) d hi (fun j hj => by cases (show j = 3 by omega); exact hn) k

theorem s_iinc_4 {K : MK} {pc : Nat} {st : List AV} {μ : Mem} {post : Option AV → Mem → Prop} {a0 a1 a2 a3 : Option AV} {tl : List (Option AV)} {n z : Int} (d : decode K.2.1 pc = .ok (.iinc 4 n, 3)) (hi : 4 < K.2.2.1) (hn : nolong a3 = true) (k : AW K (pc + 3) (a0 :: a1 :: a2 :: a3 :: some (.inl (z + n)) :: tl) st μ post) : AW K pc (a0 :: a1 :: a2 :: a3 :: some (.inl z) :: tl) st μ post := g_iinc (i := 4) d rfl hi (fun j hj => by cases (show j = 3 by omega); exact hn) k

theorem s_iload_5 {K : MK} {pc : Nat} {st : List AV} {μ : Mem} {post : Option AV → Mem → Prop} {a0 a1 a2 a3 a4 : Option AV} {tl : List (Option AV)} {z : Int} (d : decode K.2.1 pc = .ok (.iload 5, 2)) (k : AW K (pc + 2) (a0 :: a1 :: a2 :: a3 :: a4 :: some (.inl z) :: tl) (.inl z :: st) μ post) : AW K pc (a0 :: a1 :: a2 :: a3 :: a4 :: some (.inl z) :: tl) st μ post := g_iload (i := 5) d rfl k

theorem s_istore_5 {K : MK} {pc : Nat} {st : List AV} {μ : Mem} {post : Option AV → Mem → Prop} {a0 a1 a2 a3 a4 : Option AV} {b : Option AV} {tl : List (Option AV)} {z : Int} (d : decode K.2.1 pc = .ok (.istore 5, 2)) (hi : 5 < K.2.2.1) (hn : nolong a4 = true) (k : AW K (pc + 2) (a0 :: a1 :: a2 :: a3 :: a4 :: some (.inl z) :: tl) st μ post) : AW K pc (a0 :: a1 :: a2 :: a3 :: a4 :: b :: tl) (.inl z :: st) μ post := g_istore (i := 5) d hi (fun j hj => by cases (show j = 4 by omega); exact hn) k

theorem s_iinc_5 {K : MK} {pc : Nat} {st : List AV} {μ : Mem} {post : Option AV → Mem → Prop} {a0 a1 a2 a3 a4 : Option AV} {tl : List (Option AV)} {n z : Int} (d : decode K.2.1 pc = .ok (.iinc 5 n, 3)) (hi : 5 < K.2.2.1) (hn : nolong a4 = true) (k : AW K (pc + 3) (a0 :: a1 :: a2 :: a3 :: a4 :: some (.inl (z + n)) :: tl) st μ post) : AW K pc (a0 :: a1 :: a2 :: a3 :: a4 :: some (.inl z) :: tl) st μ post := g_iinc (i := 5) d rfl hi (fun j hj => by cases (show j = 4 by omega); exact hn) k

theorem s_iload_6 {K : MK} {pc : Nat} {st : List AV} {μ : Mem} {post : Option AV → Mem → Prop} {a0 a1 a2 a3 a4 a5 : Option AV} {tl : List (Option AV)} {z : Int} (d : decode K.2.1 pc = .ok (.iload 6, 2)) (k : AW K (pc + 2) (a0 :: a1 :: a2 :: a3 :: a4 :: a5 :: some (.inl z) :: tl) (.inl z :: st) μ post) : AW K pc (a0 :: a1 :: a2 :: a3 :: a4 :: a5 :: some (.inl z) :: tl) st μ post := g_iload (i := 6) d rfl k

theorem s_istore_6 {K : MK} {pc : Nat} {st : List AV} {μ : Mem} {post : Option AV → Mem → Prop} {a0 a1 a2 a3 a4 a5 : Option AV} {b : Option AV} {tl : List (Option AV)} {z : Int} (d : decode K.2.1 pc = .ok (.istore 6, 2)) (hi : 6 < K.2.2.1) (hn : nolong a5 = true) (k : AW K (pc + 2) (a0 :: a1 :: a2 :: a3 :: a4 :: a5 :: some (.inl z) :: tl) st μ post) : AW K pc (a0 :: a1 :: a2 :: a3 :: a4 :: a5 :: b :: tl) (.inl z :: st) μ post := g_istore (i := 6) d hi (fun j hj => by cases (show j = 5 by omega); exact hn) k

theorem s_iinc_6 {K : MK} {pc : Nat} {st : List AV} {μ : Mem} {post : Option AV → Mem → Prop} {a0 a1 a2 a3 a4 a5 : Option AV} {tl : List (Option AV)} {n z : Int} (d : decode K.2.1 pc = .ok (.iinc 6 n, 3)) (hi : 6 < K.2.2.1) (hn : nolong a5 = true) (k : AW K (pc + 3) (a0 :: a1 :: a2 :: a3 :: a4 :: a5 :: some (.inl (z + n)) :: tl) st μ post) : AW K pc (a0 :: a1 :: a2 :: a3 :: a4 :: a5 :: some (.inl z) :: tl) st μ post := g_iinc (i := 6) d rfl hi (fun j hj => by cases (show j = 5 by omega); exact hn) k

theorem s_iload_7 {K : MK} {pc : Nat} {st : List AV} {μ : Mem} {post : Option AV → Mem → Prop} {a0 a1 a2 a3 a4 a5 a6 : Option AV} {tl : List (Option AV)} {z : Int} (d : decode K.2.1 pc = .ok (.iload 7, 2)) (k : AW K (pc + 2) (a0 :: a1 :: a2 :: a3 :: a4 :: a5 :: a6 :: some (.inl z) :: tl) (.inl z :: st) μ post) : AW K pc (a0 :: a1 :: a2 :: a3 :: a4 :: a5 :: a6 :: some (.inl z) :: tl) st μ post := g_iload (i := 7) d rfl k

theorem s_istore_7 {K : MK} {pc : Nat} {st : List AV} {μ : Mem} {post : Option AV → Mem → Prop} {a0 a1 a2 a3 a4 a5 a6 : Option AV} {b : Option AV} {tl : List (Option AV)} {z : Int} (d : decode K.2.1 pc = .ok (.istore 7, 2)) (hi : 7 < K.2.2.1) (hn : nolong a6 = true) (k : AW K (pc + 2) (a0 :: a1 :: a2 :: a3 :: a4 :: a5 :: a6 :: some (.inl z) :: tl) st μ post) : AW K pc (a0 :: a1 :: a2 :: a3 :: a4 :: a5 :: a6 :: b :: tl) (.inl z :: st) μ post := g_istore (i := 7) d hi (fun j hj => by cases (show j = 6 by omega); exact hn) k

theorem s_iinc_7 {K : MK} {pc : Nat} {st : List AV} {μ : Mem} {post : Option AV → Mem → Prop} {a0 a1 a2 a3 a4 a5 a6 : Option AV} {tl : List (Option AV)} {n z : Int} (d : decode K.2.1 pc = .ok (.iinc 7 n, 3)) (hi : 7 < K.2.2.1) (hn : nolong a6 = true) (k : AW K (pc + 3) (a0 :: a1 :: a2 :: a3 :: a4 :: a5 :: a6 :: some (.inl (z + n)) :: tl) st μ post) : AW K pc (a0 :: a1 :: a2 :: a3 :: a4 :: a5 :: a6 :: some (.inl z) :: tl) st μ post := g_iinc (i := 7) d rfl hi (fun j hj => by cases (show j = 6 by omega); exact hn) k

theorem s_iload_8 {K : MK} {pc : Nat} {st : List AV} {μ : Mem} {post : Option AV → Mem → Prop} {a0 a1 a2 a3 a4 a5 a6 a7 : Option AV} {tl : List (Option AV)} {z : Int} (d : decode K.2.1 pc = .ok (.iload 8, 2)) (k : AW K (pc + 2) (a0 :: a1 :: a2 :: a3 :: a4 :: a5 :: a6 :: a7 :: some (.inl z) :: tl) (.inl z :: st) μ post) : AW K pc (a0 :: a1 :: a2 :: a3 :: a4 :: a5 :: a6 :: a7 :: some (.inl z) :: tl) st μ post := g_iload (i := 8) d rfl k

theorem s_istore_8 {K : MK} {pc : Nat} {st : List AV} {μ : Mem} {post : Option AV → Mem → Prop} {a0 a1 a2 a3 a4 a5 a6 a7 : Option AV} {b : Option AV} {tl : List (Option AV)} {z : Int} (d : decode K.2.1 pc = .ok (.istore 8, 2)) (hi : 8 < K.2.2.1) (hn : nolong a7 = true) (k : AW K (pc + 2) (a0 :: a1 :: a2 :: a3 :: a4 :: a5 :: a6 :: a7 :: some (.inl z) :: tl) st μ post) : AW K pc (a0 :: a1 :: a2 :: a3 :: a4 :: a5 :: a6 :: a7 :: b :: tl) (.inl z :: st) μ post := g_istore (i := 8) d hi (fun j hj => by cases (show j = 7 by omega); exact hn) k

theorem s_iinc_8 {K : MK} {pc : Nat} {st : List AV} {μ : Mem} {post : Option AV → Mem → Prop} {a0 a1 a2 a3 a4 a5 a6 a7 : Option AV} {tl : List (Option AV)} {n z : Int} (d : decode K.2.1 pc = .ok (.iinc 8 n, 3)) (hi : 8 < K.2.2.1) (hn : nolong a7 = true) (k : AW K (pc + 3) (a0 :: a1 :: a2 :: a3 :: a4 :: a5 :: a6 :: a7 :: some (.inl (z + n)) :: tl) st μ post) : AW K pc (a0 :: a1 :: a2 :: a3 :: a4 :: a5 :: a6 :: a7 :: some (.inl z) :: tl) st μ post := g_iinc (i := 8) d rfl hi (fun j hj => by cases (show j = 7 by omega); exact hn) k

theorem s_iload_9 {K : MK} {pc : Nat} {st : List AV} {μ : Mem} {post : Option AV → Mem → Prop} {a0 a1 a2 a3 a4 a5 a6 a7 a8 : Option AV} {tl : List (Option AV)} {z : Int} (d : decode K.2.1 pc = .ok (.iload 9, 2)) (k : AW K (pc + 2) (a0 :: a1 :: a2 :: a3 :: a4 :: a5 :: a6 :: a7 :: a8 :: some (.inl z) :: tl) (.inl z :: st) μ post) : AW K pc (a0 :: a1 :: a2 :: a3 :: a4 :: a5 :: a6 :: a7 :: a8 :: some (.inl z) :: tl) st μ post := g_iload (i := 9) d rfl k

theorem s_istore_9 {K : MK} {pc : Nat} {st : List AV} {μ : Mem} {post : Option AV → Mem → Prop} {a0 a1 a2 a3 a4 a5 a6 a7 a8 : Option AV} {b : Option AV} {tl : List (Option AV)} {z : Int} (d : decode K.2.1 pc = .ok (.istore 9, 2)) (hi : 9 < K.2.2.1) (hn : nolong a8 = true) (k : AW K (pc + 2) (a0 :: a1 :: a2 :: a3 :: a4 :: a5 :: a6 :: a7 :: a8 :: some (.inl z) :: tl) st μ post) : AW K pc (a0 :: a1 :: a2 :: a3 :: a4 :: a5 :: a6 :: a7 :: a8 :: b :: tl) (.inl z :: st) μ post := g_istore (i := 9) d hi (fun j hj => by cases (show j = 8 by omega); exact hn) k

theorem s_iinc_9 {K : MK} {pc : Nat} {st : List AV} {μ : Mem} {post : Option AV → Mem → Prop} {a0 a1 a2 a3 a4 a5 a6 a7 a8 : Option AV} {tl : List (Option AV)} {n z : Int} (d : decode K.2.1 pc = .ok (.iinc 9 n, 3)) (hi : 9 < K.2.2.1) (hn : nolong a8 = true) (k : AW K (pc + 3) (a0 :: a1 :: a2 :: a3 :: a4 :: a5 :: a6 :: a7 :: a8 :: some (.inl (z + n)) :: tl) st μ post) : AW K pc (a0 :: a1 :: a2 :: a3 :: a4 :: a5 :: a6 :: a7 :: a8 :: some (.inl z) :: tl) st μ post := g_iinc (i := 9) d rfl hi (fun j hj => by cases (show j = 8 by omega); exact hn) k

theorem s_iload_10 {K : MK} {pc : Nat} {st : List AV} {μ : Mem} {post : Option AV → Mem → Prop} {a0 a1 a2 a3 a4 a5 a6 a7 a8 a9 : Option AV} {tl : List (Option AV)} {z : Int} (d : decode K.2.1 pc = .ok (.iload 10, 2)) (k : AW K (pc + 2) (a0 :: a1 :: a2 :: a3 :: a4 :: a5 :: a6 :: a7 :: a8 :: a9 :: some (.inl z) :: tl) (.inl z :: st) μ post) : AW K pc (a0 :: a1 :: a2 :: a3 :: a4 :: a5 :: a6 :: a7 :: a8 :: a9 :: some (.inl z) :: tl) st μ post := g_iload (i := 10) d rfl k

theorem s_istore_10 {K : MK} {pc : Nat} {st : List AV} {μ : Mem} {post : Option AV → Mem → Prop} {a0 a1 a2 a3 a4 a5 a6 a7 a8 a9 : Option AV} {b : Option AV} {tl : List (Option AV)} {z : Int} (d : decode K.2.1 pc = .ok (.istore 10, 2)) (hi : 10 < K.2.2.1) (hn : nolong a9 = true) (k : AW K (pc + 2) (a0 :: a1 :: a2 :: a3 :: a4 :: a5 :: a6 :: a7 :: a8 :: a9 :: some (.inl z) :: tl) st μ post) : AW K pc (a0 :: a1 :: a2 :: a3 :: a4 :: a5 :: a6 :: a7 :: a8 :: a9 :: b :: tl) (.inl z :: st) μ post := g_istore (i := 10) d hi (fun j hj => by cases (show j = 9 by omega); exact hn) k

theorem s_iinc_10 {K : MK} {pc : Nat} {st : List AV} {μ : Mem} {post : Option AV → Mem → Prop} {a0 a1 a2 a3 a4 a5 a6 a7 a8 a9 : Option AV} {tl : List (Option AV)} {n z : Int} (d : decode K.2.1 pc = .ok (.iinc 10 n, 3)) (hi : 10 < K.2.2.1) (hn : nolong a9 = true) (k : AW K (pc + 3) (a0 :: a1 :: a2 :: a3 :: a4 :: a5 :: a6 :: a7 :: a8 :: a9 :: some (.inl (z + n)) :: tl) st μ post) : AW K pc (a0 :: a1 :: a2 :: a3 :: a4 :: a5 :: a6 :: a7 :: a8 :: a9 :: some (.inl z) :: tl) st μ post := g_iinc (i := 10) d rfl hi (fun j hj => by cases (show j = 9 by omega); exact hn) k

theorem s_iload_11 {K : MK} {pc : Nat} {st : List AV} {μ : Mem} {post : Option AV → Mem → Prop} {a0 a1 a2 a3 a4 a5 a6 a7 a8 a9 a10 : Option AV} {tl : List (Option AV)} {z : Int} (d : decode K.2.1 pc = .ok (.iload 11, 2)) (k : AW K (pc + 2) (a0 :: a1 :: a2 :: a3 :: a4 :: a5 :: a6 :: a7 :: a8 :: a9 :: a10 :: some (.inl z) :: tl) (.inl z :: st) μ post) : AW K pc (a0 :: a1 :: a2 :: a3 :: a4 :: a5 :: a6 :: a7 :: a8 :: a9 :: a10 :: some (.inl z) :: tl) st μ post := g_iload (i := 11) d rfl k

theorem s_istore_11 {K : MK} {pc : Nat} {st : List AV} {μ : Mem} {post : Option AV → Mem → Prop} {a0 a1 a2 a3 a4 a5 a6 a7 a8 a9 a10 : Option AV} {b : Option AV} {tl : List (Option AV)} {z : Int} (d : decode K.2.1 pc = .ok (.istore 11, 2)) (hi : 11 < K.2.2.1) (hn : nolong a10 = true) (k : AW K (pc + 2) (a0 :: a1 :: a2 :: a3 :: a4 :: a5 :: a6 :: a7 :: a8 :: a9 :: a10 :: some (.inl z) :: tl) st μ post) : AW K pc (a0 :: a1 :: a2 :: a3 :: a4 :: a5 :: a6 :: a7 :: a8 :: a9 :: a10 :: b :: tl) (.inl z :: st) μ post := g_istore (i := 11) d hi (fun j hj => by cases (show j = 10 by omega); exact hn) k

theorem s_iinc_11 {K : MK} {pc : Nat} {st : List AV} {μ : Mem} {post : Option AV → Mem → Prop} {a0 a1 a2 a3 a4 a5 a6 a7 a8 a9 a10 : Option AV} {tl : List (Option AV)} {n z : Int} (d : decode K.2.1 pc = .ok (.iinc 11 n, 3)) (hi : 11 < K.2.2.1) (hn : nolong a10 = true) (k : AW K (pc + 3) (a0 :: a1 :: a2 :: a3 :: a4 :: a5 :: a6 :: a7 :: a8 :: a9 :: a10 :: some (.inl (z + n)) :: tl) st μ post) : AW K pc (a0 :: a1 :: a2 :: a3 :: a4 :: a5 :: a6 :: a7 :: a8 :: a9 :: a10 :: some (.inl z) :: tl) st μ post := g_iinc (i := 11) d rfl hi (fun j hj => by cases (show j = 10 by omega); exact hn) k

theorem s_iload_12 {K : MK} {pc : Nat} {st : List AV} {μ : Mem} {post : Option AV → Mem → Prop} {a0 a1 a2 a3 a4 a5 a6 a7 a8 a9 a10 a11 : Option AV} {tl : List (Option AV)} {z : Int} (d : decode K.2.1 pc = .ok (.iload 12, 2)) (k : AW K (pc + 2) (a0 :: a1 :: a2 :: a3 :: a4 :: a5 :: a6 :: a7 :: a8 :: a9 :: a10 :: a11 :: some (.inl z) :: tl) (.inl z :: st) μ post) : AW K pc (a0 :: a1 :: a2 :: a3 :: a4 :: a5 :: a6 :: a7 :: a8 :: a9 :: a10 :: a11 :: some (.inl z) :: tl) st μ post := g_iload (i := 12) d rfl k

theorem s_istore_12 {K : MK} {pc : Nat} {st : List AV} {μ : Mem} {post : Option AV → Mem → Prop} {a0 a1 a2 a3 a4 a5 a6 a7 a8 a9 a10 a11 : Option AV} {b : Option AV} {tl : List (Option AV)} {z : Int} (d : decode K.2.1 pc = .ok (.istore 12, 2)) (hi : 12 < K.2.2.1) (hn : nolong a11 = true) (k : AW K (pc + 2) (a0 :: a1 :: a2 :: a3 :: a4 :: a5 :: a6 :: a7 :: a8 :: a9 :: a10 :: a11 :: some (.inl z) :: tl) st μ post) : AW K pc (a0 :: a1 :: a2 :: a3 :: a4 :: a5 :: a6 :: a7 :: a8 :: a9 :: a10 :: a11 :: b :: tl) (.inl z :: st) μ post := g_istore (i := 12) d hi (fun j hj => by cases (show j = 11 by omega); exact hn) k

theorem s_iinc_12 {K : MK} {pc : Nat} {st : List AV} {μ : Mem} {post : Option AV → Mem → Prop} {a0 a1 a2 a3 a4 a5 a6 a7 a8 a9 a10 a11 : Option AV} {tl : List (Option AV)} {n z : Int} (d : decode K.2.1 pc = .ok (.iinc 12 n, 3)) (hi : 12 < K.2.2.1) (hn : nolong a11 = true) (k : AW K (pc + 3) (a0 :: a1 :: a2 :: a3 :: a4 :: a5 :: a6 :: a7 :: a8 :: a9 :: a10 :: a11 :: some (.inl (z + n)) :: tl) st μ post) : AW K pc (a0 :: a1 :: a2 :: a3 :: a4 :: a5 :: a6 :: a7 :: a8 :: a9 :: a10 :: a11 :: some (.inl z) :: tl) st μ post := g_iinc (i := 12) d rfl hi (fun j hj => by cases (show j = 11 by omega); exact hn) k

theorem s_iload_13 {K : MK} {pc : Nat} {st : List AV} {μ : Mem} {post : Option AV → Mem → Prop} {a0 a1 a2 a3 a4 a5 a6 a7 a8 a9 a10 a11 a12 : Option AV} {tl : List (Option AV)} {z : Int} (d : decode K.2.1 pc = .ok (.iload 13, 2)) (k : AW K (pc + 2) (a0 :: a1 :: a2 :: a3 :: a4 :: a5 :: a6 :: a7 :: a8 :: a9 :: a10 :: a11 :: a12 :: some (.inl z) :: tl) (.inl z :: st) μ post) : AW K pc (a0 :: a1 :: a2 :: a3 :: a4 :: a5 :: a6 :: a7 :: a8 :: a9 :: a10 :: a11 :: a12 :: some (.inl z) :: tl) st μ post := g_iload (i := 13) d rfl k

theorem s_istore_13 {K : MK} {pc : Nat} {st : List AV} {μ : Mem} {post : Option AV → Mem → Prop} {a0 a1 a2 a3 a4 a5 a6 a7 a8 a9 a10 a11 a12 : Option AV} {b : Option AV} {tl : List (Option AV)} {z : Int} (d : decode K.2.1 pc = .ok (.istore 13, 2)) (hi : 13 < K.2.2.1) (hn : nolong a12 = true) (k : AW K (pc + 2) (a0 :: a1 :: a2 :: a3 :: a4 :: a5 :: a6 :: a7 :: a8 :: a9 :: a10 :: a11 :: a12 :: some (.inl z) :: tl) st μ post) : AW K pc (a0 :: a1 :: a2 :: a3 :: a4 :: a5 :: a6 :: a7 :: a8 :: a9 :: a10 :: a11 :: a12 :: b :: tl) (.inl z :: st) μ post := g_istore (i := 13) d hi (fun j hj => by cases (show j = 12 by omega); exact hn) k

theorem s_iinc_13 {K : MK} {pc : Nat} {st : List AV} {μ : Mem} {post : Option AV → Mem → Prop} {a0 a1 a2 a3 a4 a5 a6 a7 a8 a9 a10 a11 a12 : Option AV} {tl : List (Option AV)} {n z : Int} (d : decode K.2.1 pc = .ok (.iinc 13 n, 3)) (hi : 13 < K.2.2.1) (hn : nolong a12 = true) (k : AW K (pc + 3) (a0 :: a1 :: a2 :: a3 :: a4 :: a5 :: a6 :: a7 :: a8 :: a9 :: a10 :: a11 :: a12 :: some (.inl (z + n)) :: tl) st μ post) : AW K pc (a0 :: a1 :: a2 :: a3 :: a4 :: a5 :: a6 :: a7 :: a8 :: a9 :: a10 :: a11 :: a12 :: some (.inl z) :: tl) st μ post := g_iinc (i := 13) d rfl hi (fun j hj => by cases (show j = 12 by omega); exact hn) k

theorem s_iload_14 {K : MK} {pc : Nat} {st : List AV} {μ : Mem} {post : Option AV → Mem → Prop} {a0 a1 a2 a3 a4 a5 a6 a7 a8 a9 a10 a11 a12 a13 : Option AV} {tl : List (Option AV)} {z : Int} (d : decode K.2.1 pc = .ok (.iload 14, 2)) (k : AW K (pc + 2) (a0 :: a1 :: a2 :: a3 :: a4 :: a5 :: a6 :: a7 :: a8 :: a9 :: a10 :: a11 :: a12 :: a13 :: some (.inl z) :: tl) (.inl z :: st) μ post) : AW K pc (a0 :: a1 :: a2 :: a3 :: a4 :: a5 :: a6 :: a7 :: a8 :: a9 :: a10 :: a11 :: a12 :: a13 :: some (.inl z) :: tl) st μ post := g_iload (i := 14) d rfl k

theorem s_istore_14 {K : MK} {pc : Nat} {st : List AV} {μ : Mem} {post : Option AV → Mem → Prop} {a0 a1 a2 a3 a4 a5 a6 a7 a8 a9 a10 a11 a12 a13 : Option AV} {b : Option AV} {tl : List (Option AV)} {z : Int} (d : decode K.2.1 pc = .ok (.istore 14, 2)) (hi : 14 < K.2.2.1) (hn : nolong a13 = true) (k : AW K (pc + 2) (a0 :: a1 :: a2 :: a3 :: a4 :: a5 :: a6 :: a7 :: a8 :: a9 :: a10 :: a11 :: a12 :: a13 :: some (.inl z) :: tl) st μ post) : AW K pc (a0 :: a1 :: a2 :: a3 :: a4 :: a5 :: a6 :: a7 :: a8 :: a9 :: a10 :: a11 :: a12 :: a13 :: b :: tl) (.inl z :: st) μ post := g_istore (i := 14) d hi (fun j hj => by cases (show j = 13 by omega); exact hn) k

theorem s_iinc_14 {K : MK} {pc : Nat} {st : List AV} {μ : Mem} {post : Option AV → Mem → Prop} {a0 a1 a2 a3 a4 a5 a6 a7 a8 a9 a10 a11 a12 a13 : Option AV} {tl : List (Option AV)} {n z : Int} (d : decode K.2.1 pc = .ok (.iinc 14 n, 3)) (hi : 14 < K.2.2.1) (hn : nolong a13 = true) (k : AW K (pc + 3) (a0 :: a1 :: a2 :: a3 :: a4 :: a5 :: a6 :: a7 :: a8 :: a9 :: a10 :: a11 :: a12 :: a13 :: some (.inl (z + n)) :: tl) st μ post) : AW K pc (a0 :: a1 :: a2 :: a3 :: a4 :: a5 :: a6 :: a7 :: a8 :: a9 :: a10 :: a11 :: a12 :: a13 :: some (.inl z) :: tl) st μ post := g_iinc (i := 14) d rfl hi (fun j hj => by cases (show j = 13 by omega); exact hn) k

theorem s_lload_0 {K : MK} {pc : Nat} {st : List AV} {μ : Mem} {post : Option AV → Mem → Prop} {tl : List (Option AV)} {z : Int} (d : decode K.2.1 pc = .ok (.lload_n 0, 1)) (k : AW K (pc + 1) (some (.inr (.inl z)) :: tl) (.inr (.inl z) :: st) μ post) : AW K pc (some (.inr (.inl z)) :: tl) st μ post := g_lload_n (i := 0) d rfl k

theorem s_lstore_0 {K : MK} {pc : Nat} {st : List AV} {μ : Mem} {post : Option AV → Mem → Prop} {b b1 : Option AV} {tl : List (Option AV)} {z : Int} (d : decode K.2.1 pc = .ok (.lstore_n 0, 1)) (hi : 1 < K.2.2.1) (k : AW K (pc + 1) (some (.inr (.inl z)) :: none :: tl) st μ post) : AW K pc (b :: b1 :: tl) (.inr (.inl z) :: st) μ post := g_lstore_n (i := 0) d hi (fun j hj => by omega) k

theorem s_lload_1 {K : MK} {pc : Nat} {st : List AV} {μ : Mem} {post : Option AV → Mem → Prop} {a0 : Option AV} {tl : List (Option AV)} {z : Int} (d : decode K.2.1 pc = .ok (.lload_n 1, 1)) (k : AW K (pc + 1) (a0 :: some (.inr (.inl z)) :: tl) (.inr (.inl z) :: st) μ post) : AW K pc (a0 :: some (.inr (.inl z)) :: tl) st μ post := g_lload_n (i := 1) d rfl k

theorem s_lstore_1 {K : MK} {pc : Nat} {st : List AV} {μ : Mem} {post : Option AV → Mem → Prop} {a0 : Option AV} {b b1 : Option AV} {tl : List (Option AV)} {z : Int} (d : decode K.2.1 pc = .ok (.lstore_n 1, 1)) (hi : 2 < K.2.2.1) (hn : nolong a0 = true) (k : AW K (pc + 1) (a0 :: some (.inr (.inl z)) :: none :: tl) st μ post) : AW K pc (a0 :: b :: b1 :: tl) (.inr (.inl z) :: st) μ post := g_lstore_n (i := 1) d hi (fun j hj => by cases (show j = 0 by omega); exact hn) k

theorem s_lload_2 {K : MK} {pc : Nat} {st : List AV} {μ : Mem} {post : Option AV → Mem → Prop} {a0 a1 : Option AV} {tl : List (Option AV)} {z : Int} (d : decode K.2.1 pc = .ok (.lload_n 2, 1)) (k : AW K (pc + 1) (a0 :: a1 :: some (.inr (.inl z)) :: tl) (.inr (.inl z) :: st) μ post) : AW K pc (a0 :: a1 :: some (.inr (.inl z)) :: tl) st μ post := g_lload_n (i := 2) d rfl k

theorem s_lstore_2 {K : MK} {pc : Nat} {st : List AV} {μ : Mem} {post : Option AV → Mem → Prop} {a0 a1 : Option AV} {b b1 : Option AV} {tl : List (Option AV)} {z : Int} (d : decode K.2.1 pc = .ok (.lstore_n 2, 1)) (hi : 3 < K.2.2.1) (hn : nolong a1 = true) (k : AW K (pc + 1) (a0 :: a1 :: some (.inr (.inl z)) :: none :: tl) st μ post) : AW K pc (a0 :: a1 :: b :: b1 :: tl) (.inr (.inl z) :: st) μ post := g_lstore_n (i := 2) d hi (fun j hj => by cases (show j = 1 by omega); exact hn) k

theorem s_lload_3 {K : MK} {pc : Nat} {st : List AV} {μ : Mem} {post : Option AV → Mem → Prop} {a0 a1 a2 : Option AV} {tl : List (Option AV)} {z : Int} (d : decode K.2.1 pc = .ok (.lload_n 3, 1)) (k : AW K (pc + 1) (a0 :: a1 :: a2 :: some (.inr (.inl z)) :: tl) (.inr (.inl z) :: st) μ post) : AW K pc (a0 :: a1 :: a2 :: some (.inr (.inl z)) :: tl) st μ post := g_lload_n (i := 3) d rfl k

theorem s_lstore_3 {K : MK} {pc : Nat} {st : List AV} {μ : Mem} {post : Option AV → Mem → Prop} {a0 a1 a2 : Option AV} {b b1 : Option AV} {tl : List (Option AV)} {z : Int} (d : decode K.2.1 pc = .ok (.lstore_n 3, 1)) (hi : 4 < K.2.2.1) (hn : nolong a2 = true) (k : AW K (pc + 1) (a0 :: a1 :: a2 :: some (.inr (.inl z)) :: none :: tl) st μ post) : AW K pc (a0 :: a1 :: a2 :: b :: b1 :: tl) (.inr (.inl z) :: st) μ post := g_lstore_n (i := 3) d hi (fun j hj => by cases (show j = 2 by omega); exact hn) k

theorem s_lload_4 {K : MK} {pc : Nat} {st : List AV} {μ : Mem} {post : Option AV → Mem → Prop} {a0 a1 a2 a3 : Option AV} {tl : List (Option AV)} {z : Int} (d : decode K.2.1 pc = .ok (.lload 4, 2)) (k : AW K (pc + 2) (a0 :: a1 :: a2 :: a3 :: some (.inr (.inl z)) :: tl) (.inr (.inl z) :: st) μ post) : AW K pc (a0 :: a1 :: a2 :: a3 :: some (.inr (.inl z)) :: tl) st μ post := g_lload (i := 4) d rfl k

theorem s_lstore_4 {K : MK} {pc : Nat} {st : List AV} {μ : Mem} {post : Option AV → Mem → Prop} {a0 a1 a2 a3 : Option AV} {b b1 : Option AV} {tl : List (Option AV)} {z : Int} (d : decode K.2.1 pc = .ok (.lstore 4, 2)) (hi : 5 < K.2.2.1) (hn : nolong a3 = true) (k : AW K (pc + 2) (a0 :: a1 :: a2 :: a3 :: some (.inr (.inl z)) :: none :: tl) st μ post) : AW K pc (a0 :: a1 :: a2 :: a3 :: b :: b1 :: tl) (.inr (.inl z) :: st) μ post := g_lstore (i := 4) d hi (fun j hj => by cases (show j = 3 by omega); exact hn) k

theorem s_lload_5 {K : MK} {pc : Nat} {st : List AV} {μ : Mem} {post : Option AV → Mem → Prop} {a0 a1 a2 a3 a4 : Option AV} {tl : List (Option AV)} {z : Int} (d : decode K.2.1 pc = .ok (.lload 5, 2)) (k : AW K (pc + 2) (a0 :: a1 :: a2 :: a3 :: a4 :: some (.inr (.inl z)) :: tl) (.inr (.inl z) :: st) μ post) : AW K pc (a0 :: a1 :: a2 :: a3 :: a4 :: some (.inr (.inl z)) :: tl) st μ post := g_lload (i := 5) d rfl k

theorem s_lstore_5 {K : MK} {pc : Nat} {st : List AV} {μ : Mem} {post : Option AV → Mem → Prop} {a0 a1 a2 a3 a4 : Option AV} {b b1 : Option AV} {tl : List (Option AV)} {z : Int} (d : decode K.2.1 pc = .ok (.lstore 5, 2)) (hi : 6 < K.2.2.1) (hn : nolong a4 = true) (k : AW K (pc + 2) (a0 :: a1 :: a2 :: a3 :: a4 :: some (.inr (.inl z)) :: none :: tl) st μ post) : AW K pc (a0 :: a1 :: a2 :: a3 :: a4 :: b :: b1 :: tl) (.inr (.inl z) :: st) μ post := g_lstore (i := 5) d hi (fun j hj => by cases (show j = 4 by omega); exact hn) k

theorem s_lload_6 {K : MK} {pc : Nat} {st : List AV} {μ : Mem} {post : Option AV → Mem → Prop} {a0 a1 a2 a3 a4 a5 : Option AV} {tl : List (Option AV)} {z : Int} (d : decode K.2.1 pc = .ok (.lload 6, 2)) (k : AW K (pc + 2) (a0 :: a1 :: a2 :: a3 :: a4 :: a5 :: some (.inr (.inl z)) :: tl) (.inr (.inl z) :: st) μ post) : AW K pc (a0 :: a1 :: a2 :: a3 :: a4 :: a5 :: some (.inr (.inl z)) :: tl) st μ post := g_lload (i := 6) d rfl k

theorem s_lstore_6 {K : MK} {pc : Nat} {st : List AV} {μ : Mem} {post : Option AV → Mem → Prop} {a0 a1 a2 a3 a4 a5 : Option AV} {b b1 : Option AV} {tl : List (Option AV)} {z : Int} (d : decode K.2.1 pc = .ok (.lstore 6, 2)) (hi : 7 < K.2.2.1) (hn : nolong a5 = true) (k : AW K (pc + 2) (a0 :: a1 :: a2 :: a3 :: a4 :: a5 :: some (.inr (.inl z)) :: none :: tl) st μ post) : AW K pc (a0 :: a1 :: a2 :: a3 :: a4 :: a5 :: b :: b1 :: tl) (.inr (.inl z) :: st) μ post := g_lstore (i := 6) d hi (fun j hj => by cases (show j = 5 by omega); exact hn) k

theorem s_lload_7 {K : MK} {pc : Nat} {st : List AV} {μ : Mem} {post : Option AV → Mem → Prop} {a0 a1 a2 a3 a4 a5 a6 : Option AV} {tl : List (Option AV)} {z : Int} (d : decode K.2.1 pc = .ok (.lload 7, 2)) (k : AW K (pc + 2) (a0 :: a1 :: a2 :: a3 :: a4 :: a5 :: a6 :: some (.inr (.inl z)) :: tl) (.inr (.inl z) :: st) μ post) : AW K pc (a0 :: a1 :: a2 :: a3 :: a4 :: a5 :: a6 :: some (.inr (.inl z)) :: tl) st μ post := g_lload (i := 7) d rfl k

theorem s_lstore_7 {K : MK} {pc : Nat} {st : List AV} {μ : Mem} {post : Option AV → Mem → Prop} {a0 a1 a2 a3 a4 a5 a6 : Option AV} {b b1 : Option AV} {tl : List (Option AV)} {z : Int} (d : decode K.2.1 pc = .ok (.lstore 7, 2)) (hi : 8 < K.2.2.1) (hn : nolong a6 = true) (k : AW K (pc + 2) (a0 :: a1 :: a2 :: a3 :: a4 :: a5 :: a6 :: some (.inr (.inl z)) :: none :: tl) st μ post) : AW K pc (a0 :: a1 :: a2 :: a3 :: a4 :: a5 :: a6 :: b :: b1 :: tl) (.inr (.inl z) :: st) μ post := g_lstore (i := 7) d hi (fun j hj => by cases (show j = 6 by omega); exact hn) k

theorem s_lload_8 {K : MK} {pc : Nat} {st : List AV} {μ : Mem} {post : Option AV → Mem → Prop} {a0 a1 a2 a3 a4 a5 a6 a7 : Option AV} {tl : List (Option AV)} {z : Int} (d : decode K.2.1 pc = .ok (.lload 8, 2)) (k : AW K (pc + 2) (a0 :: a1 :: a2 :: a3 :: a4 :: a5 :: a6 :: a7 :: some (.inr (.inl z)) :: tl) (.inr (.inl z) :: st) μ post) : AW K pc (a0 :: a1 :: a2 :: a3 :: a4 :: a5 :: a6 :: a7 :: some (.inr (.inl z)) :: tl) st μ post := g_lload (i := 8) d rfl k

theorem s_lstore_8 {K : MK} {pc : Nat} {st : List AV} {μ : Mem} {post : Option AV → Mem → Prop} {a0 a1 a2 a3 a4 a5 a6 a7 : Option AV} {b b1 : Option AV} {tl : List (Option AV)} {z : Int} (d : decode K.2.1 pc = .ok (.lstore 8, 2)) (hi : 9 < K.2.2.1) (hn : nolong a7 = true) (k : AW K (pc + 2) (a0 :: a1 :: a2 :: a3 :: a4 :: a5 :: a6 :: a7 :: some (.inr (.inl z)) :: none :: tl) st μ post) : AW K pc (a0 :: a1 :: a2 :: a3 :: a4 :: a5 :: a6 :: a7 :: b :: b1 :: tl) (.inr (.inl z) :: st) μ post := g_lstore (i := 8) d hi (fun j hj => by cases (show j = 7 by omega); exact hn) k

theorem s_lload_9 {K : MK} {pc : Nat} {st : List AV} {μ : Mem} {post : Option AV → Mem → Prop} {a0 a1 a2 a3 a4 a5 a6 a7 a8 : Option AV} {tl : List (Option AV)} {z : Int} (d : decode K.2.1 pc = .ok (.lload 9, 2)) (k : AW K (pc + 2) (a0 :: a1 :: a2 :: a3 :: a4 :: a5 :: a6 :: a7 :: a8 :: some (.inr (.inl z)) :: tl) (.inr (.inl z) :: st) μ post) : AW K pc (a0 :: a1 :: a2 :: a3 :: a4 :: a5 :: a6 :: a7 :: a8 :: some (.inr (.inl z)) :: tl) st μ post := g_lload (i := 9) d rfl k

theorem s_lstore_9 {K : MK} {pc : Nat} {st : List AV} {μ : Mem} {post : Option AV → Mem → Prop} {a0 a1 a2 a3 a4 a5 a6 a7 a8 : Option AV} {b b1 : Option AV} {tl : List (Option AV)} {z : Int} (d : decode K.2.1 pc = .ok (.lstore 9, 2)) (hi : 10 < K.2.2.1) (hn : nolong a8 = true) (k : AW K (pc + 2) (a0 :: a1 :: a2 :: a3 :: a4 :: a5 :: a6 :: a7 :: a8 :: some (.inr (.inl z)) :: none :: tl) st μ post) : AW K pc (a0 :: a1 :: a2 :: a3 :: a4 :: a5 :: a6 :: a7 :: a8 :: b :: b1 :: tl) (.inr (.inl z) :: st) μ post := g_lstore (i := 9) d hi (fun j hj => by cases (show j = 8 by omega); exact hn) k

theorem s_lload_10 {K : MK} {pc : Nat} {st : List AV} {μ : Mem} {post : Option AV → Mem → Prop} {a0 a1 a2 a3 a4 a5 a6 a7 a8 a9 : Option AV} {tl : List (Option AV)} {z : Int} (d : decode K.2.1 pc = .ok (.lload 10, 2)) (k : AW K (pc + 2) (a0 :: a1 :: a2 :: a3 :: a4 :: a5 :: a6 :: a7 :: a8 :: a9 :: some (.inr (.inl z)) :: tl) (.inr (.inl z) :: st) μ post) : AW K pc (a0 :: a1 :: a2 :: a3 :: a4 :: a5 :: a6 :: a7 :: a8 :: a9 :: some (.inr (.inl z)) :: tl) st μ post := g_lload (i := 10) d rfl k

theorem s_lstore_10 {K : MK} {pc : Nat} {st : List AV} {μ : Mem} {post : Option AV → Mem → Prop} {a0 a1 a2 a3 a4 a5 a6 a7 a8 a9 : Option AV} {b b1 : Option AV} {tl : List (Option AV)} {z : Int} (d : decode K.2.1 pc = .ok (.lstore 10, 2)) (hi : 11 < K.2.2.1) (hn : nolong a9 = true) (k : AW K (pc + 2) (a0 :: a1 :: a2 :: a3 :: a4 :: a5 :: a6 :: a7 :: a8 :: a9 :: some (.inr (.inl z)) :: none :: tl) st μ post) : AW K pc (a0 :: a1 :: a2 :: a3 :: a4 :: a5 :: a6 :: a7 :: a8 :: a9 :: b :: b1 :: tl) (.inr (.inl z) :: st) μ post := g_lstore (i := 10) d hi (fun j hj => by cases (show j = 9 by omega); exact hn) k

theorem s_lload_11 {K : MK} {pc : Nat} {st : List AV} {μ : Mem} {post : Option AV → Mem → Prop} {a0 a1 a2 a3 a4 a5 a6 a7 a8 a9 a10 : Option AV} {tl : List (Option AV)} {z : Int} (d : decode K.2.1 pc = .ok (.lload 11, 2)) (k : AW K (pc + 2) (a0 :: a1 :: a2 :: a3 :: a4 :: a5 :: a6 :: a7 :: a8 :: a9 :: a10 :: some (.inr (.inl z)) :: tl) (.inr (.inl z) :: st) μ post) : AW K pc (a0 :: a1 :: a2 :: a3 :: a4 :: a5 :: a6 :: a7 :: a8 :: a9 :: a10 :: some (.inr (.inl z)) :: tl) st μ post := g_lload (i := 11) d rfl k

theorem s_lstore_11 {K : MK} {pc : Nat} {st : List AV} {μ : Mem} {post : Option AV → Mem → Prop} {a0 a1 a2 a3 a4 a5 a6 a7 a8 a9 a10 : Option AV} {b b1 : Option AV} {tl : List (Option AV)} {z : Int} (d : decode K.2.1 pc = .ok (.lstore 11, 2)) (hi : 12 < K.2.2.1) (hn : nolong a10 = true) (k : AW K (pc + 2) (a0 :: a1 :: a2 :: a3 :: a4 :: a5 :: a6 :: a7 :: a8 :: a9 :: a10 :: some (.inr (.inl z)) :: none :: tl) st μ post) : AW K pc (a0 :: a1 :: a2 :: a3 :: a4 :: a5 :: a6 :: a7 :: a8 :: a9 :: a10 :: b :: b1 :: tl) (.inr (.inl z) :: st) μ post := g_lstore (i := 11) d hi (fun j hj => by cases (show j = 10 by omega); exact hn) k

theorem s_lload_12 {K : MK} {pc : Nat} {st : List AV} {μ : Mem} {post : Option AV → Mem → Prop} {a0 a1 a2 a3 a4 a5 a6 a7 a8 a9 a10 a11 : Option AV} {tl : List (Option AV)} {z : Int} (d : decode K.2.1 pc = .ok (.lload 12, 2)) (k : AW K (pc + 2) (a0 :: a1 :: a2 :: a3 :: a4 :: a5 :: a6 :: a7 :: a8 :: a9 :: a10 :: a11 :: some (.inr (.inl z)) :: tl) (.inr (.inl z) :: st) μ post) : AW K pc (a0 :: a1 :: a2 :: a3 :: a4 :: a5 :: a6 :: a7 :: a8 :: a9 :: a10 :: a11 :: some (.inr (.inl z)) :: tl) st μ post := g_lload (i := 12) d rfl k

theorem s_lstore_12 {K : MK} {pc : Nat} {st : List AV} {μ : Mem} {post : Option AV → Mem → Prop} {a0 a1 a2 a3 a4 a5 a6 a7 a8 a9 a10 a11 : Option AV} {b b1 : Option AV} {tl : List (Option AV)} {z : Int} (d : decode K.2.1 pc = .ok (.lstore 12, 2)) (hi : 13 < K.2.2.1) (hn : nolong a11 = true) (k : AW K (pc + 2) (a0 :: a1 :: a2 :: a3 :: a4 :: a5 :: a6 :: a7 :: a8 :: a9 :: a10 :: a11 :: some (.inr (.inl z)) :: none :: tl) st μ post) : AW K pc (a0 :: a1 :: a2 :: a3 :: a4 :: a5 :: a6 :: a7 :: a8 :: a9 :: a10 :: a11 :: b :: b1 :: tl) (.inr (.inl z) :: st) μ post := g_lstore (i := 12) d hi (fun j hj => by cases (show j = 11 by omega); exact hn) k

theorem s_lload_13 {K : MK} {pc : Nat} {st : List AV} {μ : Mem} {post : Option AV → Mem → Prop} {a0 a1 a2 a3 a4 a5 a6 a7 a8 a9 a10 a11 a12 : Option AV} {tl : List (Option AV)} {z : Int} (d : decode K.2.1 pc = .ok (.lload 13, 2)) (k : AW K (pc + 2) (a0 :: a1 :: a2 :: a3 :: a4 :: a5 :: a6 :: a7 :: a8 :: a9 :: a10 :: a11 :: a12 :: some (.inr (.inl z)) :: tl) (.inr (.inl z) :: st) μ post) : AW K pc (a0 :: a1 :: a2 :: a3 :: a4 :: a5 :: a6 :: a7 :: a8 :: a9 :: a10 :: a11 :: a12 :: some (.inr (.inl z)) :: tl) st μ post := g_lload (i := 13) d rfl k

theorem s_lstore_13 {K : MK} {pc : Nat} {st : List AV} {μ : Mem} {post : Option AV → Mem → Prop} {a0 a1 a2 a3 a4 a5 a6 a7 a8 a9 a10 a11 a12 : Option AV} {b b1 : Option AV} {tl : List (Option AV)} {z : Int} (d : decode K.2.1 pc = .ok (.lstore 13, 2)) (hi : 14 < K.2.2.1) (hn : nolong a12 = true) (k : AW K (pc + 2) (a0 :: a1 :: a2 :: a3 :: a4 :: a5 :: a6 :: a7 :: a8 :: a9 :: a10 :: a11 :: a12 :: some (.inr (.inl z)) :: none :: tl) st μ post) : AW K pc (a0 :: a1 :: a2 :: a3 :: a4 :: a5 :: a6 :: a7 :: a8 :: a9 :: a10 :: a11 :: a12 :: b :: b1 :: tl) (.inr (.inl z) :: st) μ post := g_lstore (i := 13) d hi (fun j hj => by cases (show j = 12 by omega); exact hn) k

theorem s_lload_14 {K : MK} {pc : Nat} {st : List AV} {μ : Mem} {post : Option AV → Mem → Prop} {a0 a1 a2 a3 a4 a5 a6 a7 a8 a9 a10 a11 a12 a13 : Option AV} {tl : List (Option AV)} {z : Int} (d : decode K.2.1 pc = .ok (.lload 14, 2)) (k : AW K (pc + 2) (a0 :: a1 :: a2 :: a3 :: a4 :: a5 :: a6 :: a7 :: a8 :: a9 :: a10 :: a11 :: a12 :: a13 :: some (.inr (.inl z)) :: tl) (.inr (.inl z) :: st) μ post) : AW K pc (a0 :: a1 :: a2 :: a3 :: a4 :: a5 :: a6 :: a7 :: a8 :: a9 :: a10 :: a11 :: a12 :: a13 :: some (.inr (.inl z)) :: tl) st μ post := g_lload (i := 14) d rfl k

theorem s_lstore_14 {K : MK} {pc : Nat} {st : List AV} {μ : Mem} {post : Option AV → Mem → Prop} {a0 a1 a2 a3 a4 a5 a6 a7 a8 a9 a10 a11 a12 a13 : Option AV} {b b1 : Option AV} {tl : List (Option AV)} {z : Int} (d : decode K.2.1 pc = .ok (.lstore 14, 2)) (hi : 15 < K.2.2.1) (hn : nolong a13 = true) (k : AW K (pc + 2) (a0 :: a1 :: a2 :: a3 :: a4 :: a5 :: a6 :: a7 :: a8 :: a9 :: a10 :: a11 :: a12 :: a13 :: some (.inr (.inl z)) :: none :: tl) st μ post) : AW K pc (a0 :: a1 :: a2 :: a3 :: a4 :: a5 :: a6 :: a7 :: a8 :: a9 :: a10 :: a11 :: a12 :: a13 :: b :: b1 :: tl) (.inr (.inl z) :: st) μ post := g_lstore (i := 14) d hi (fun j hj => by cases (show j = 13 by omega); exact hn) k

theorem s_aload_0 {K : MK} {pc : Nat} {st : List AV} {μ : Mem} {post : Option AV → Mem → Prop} {tl : List (Option AV)} {z : Nat} (d : decode K.2.1 pc = .ok (.aload_n 0, 1)) (k : AW K (pc + 1) (some (.inr (.inr z)) :: tl) (.inr (.inr z) :: st) μ post) : AW K pc (some (.inr (.inr z)) :: tl) st μ post := g_aload_n (i := 0) d rfl k

theorem s_astore_0 {K : MK} {pc : Nat} {st : List AV} {μ : Mem} {post : Option AV → Mem → Prop} {b : Option AV} {tl : List (Option AV)} {z : Nat} (d : decode K.2.1 pc = .ok (.astore_n 0, 1)) (hi : 0 < K.2.2.1) (k : AW K (pc + 1) (some (.inr (.inr z)) :: tl) st μ post) : AW K pc (b :: tl) (.inr (.inr z) :: st) μ post := g_astore_n (i := 0) d hi (fun j hj => by omega) k

theorem s_aload_1 {K : MK} {pc : Nat} {st : List AV} {μ : Mem} {post : Option AV → Mem → Prop} {a0 : Option AV} {tl : List (Option AV)} {z : Nat} (d : decode K.2.1 pc = .ok (.aload_n 1, 1)) (k : AW K (pc + 1) (a0 :: some (.inr (.inr z)) :: tl) (.inr (.inr z) :: st) μ post) : AW K pc (a0 :: some (.inr (.inr z)) :: tl) st μ post := g_aload_n (i := 1) d rfl k

theorem s_astore_1 {K : MK} {pc : Nat} {st : List AV} {μ : Mem} {post : Option AV → Mem → Prop} {a0 : Option AV} {b : Option AV} {tl : List (Option AV)} {z : Nat} (d : decode K.2.1 pc = .ok (.astore_n 1, 1)) (hi : 1 < K.2.2.1) (hn : nolong a0 = true) (k : AW K (pc + 1) (a0 :: some (.inr (.inr z)) :: tl) st μ post) : AW K pc (a0 :: b :: tl) (.inr (.inr z) :: st) μ post := g_astore_n (i := 1) d hi (fun j hj => by cases (show j = 0 by omega); exact hn) k

theorem s_aload_2 {K : MK} {pc : Nat} {st : List AV} {μ : Mem} {post : Option AV → Mem → Prop} {a0 a1 : Option AV} {tl : List (Option AV)} {z : Nat} (d : decode K.2.1 pc = .ok (.aload_n 2, 1)) (k : AW K (pc + 1) (a0 :: a1 :: some (.inr (.inr z)) :: tl) (.inr (.inr z) :: st) μ post) : AW K pc (a0 :: a1 :: some (.inr (.inr z)) :: tl) st μ post := g_aload_n (i := 2) d rfl k

theorem s_astore_2 {K : MK} {pc : Nat} {st : List AV} {μ : Mem} {post : Option AV → Mem → Prop} {a0 a1 : Option AV} {b : Option AV} {tl : List (Option AV)} {z : Nat} (d : decode K.2.1 pc = .ok (.astore_n 2, 1)) (hi : 2 < K.2.2.1) (hn : nolong a1 = true) (k : AW K (pc + 1) (a0 :: a1 :: some (.inr (.inr z)) :: tl) st μ post) : AW K pc (a0 :: a1 :: b :: tl) (.inr (.inr z) :: st) μ post := g_astore_n (i := 2) d hi (fun j hj => by cases (show j = 1 by omega); exact hn) k

theorem s_aload_3 {K : MK} {pc : Nat} {st : List AV} {μ : Mem} {post : Option AV → Mem → Prop} {a0 a1 a2 : Option AV} {tl : List (Option AV)} {z : Nat} (d : decode K.2.1 pc = .ok (.aload_n 3, 1)) (k : AW K (pc + 1) (a0 :: a1 :: a2 :: some (.inr (.inr z)) :: tl) (.inr (.inr z) :: st) μ post) : AW K pc (a0 :: a1 :: a2 :: some (.inr (.inr z)) :: tl) st μ post := g_aload_n (i := 3) d rfl k

theorem s_astore_3 {K : MK} {pc : Nat} {st : List AV} {μ : Mem} {post : Option AV → Mem → Prop} {a0 a1 a2 : Option AV} {b : Option AV} {tl : List (Option AV)} {z : Nat} (d : decode K.2.1 pc = .ok (.astore_n 3, 1)) (hi : 3 < K.2.2.1) (hn : nolong a2 = true) (k : AW K (pc + 1) (a0 :: a1 :: a2 :: some (.inr (.inr z)) :: tl) st μ post) : AW K pc (a0 :: a1 :: a2 :: b :: tl) (.inr (.inr z) :: st) μ post := g_astore_n (i := 3) d hi (fun j hj => by cases (show j = 2 by omega); exact hn) k

theorem s_aload_4 {K : MK} {pc : Nat} {st : List AV} {μ : Mem} {post : Option AV → Mem → Prop} {a0 a1 a2 a3 : Option AV} {tl : List (Option AV)} {z : Nat} (d : decode K.2.1 pc = .ok (.aload 4, 2)) (k : AW K (pc + 2) (a0 :: a1 :: a2 :: a3 :: some (.inr (.inr z)) :: tl) (.inr (.inr z) :: st) μ post) : AW K pc (a0 :: a1 :: a2 :: a3 :: some (.inr (.inr z)) :: tl) st μ post := g_aload (i := 4) d rfl k

theorem s_aload_5 {K : MK} {pc : Nat} {st : List AV} {μ : Mem} {post : Option AV → Mem → Prop} {a0 a1 a2 a3 a4 : Option AV} {tl : List (Option AV)} {z : Nat} (d : decode K.2.1 pc = .ok (.aload 5, 2)) (k : AW K (pc + 2) (a0 :: a1 :: a2 :: a3 :: a4 :: some (.inr (.inr z)) :: tl) (.inr (.inr z) :: st) μ post) : AW K pc (a0 :: a1 :: a2 :: a3 :: a4 :: some (.inr (.inr z)) :: tl) st μ post := g_aload (i := 5) d rfl k

theorem s_aload_6 {K : MK} {pc : Nat} {st : List AV} {μ : Mem} {post : Option AV → Mem → Prop} {a0 a1 a2 a3 a4 a5 : Option AV} {tl : List (Option AV)} {z : Nat} (d : decode K.2.1 pc = .ok (.aload 6, 2)) (k : AW K (pc + 2) (a0 :: a1 :: a2 :: a3 :: a4 :: a5 :: some (.inr (.inr z)) :: tl) (.inr (.inr z) :: st) μ post) : AW K pc (a0 :: a1 :: a2 :: a3 :: a4 :: a5 :: some (.inr (.inr z)) :: tl) st μ post := g_aload (i := 6) d rfl k

theorem s_aload_7 {K : MK} {pc : Nat} {st : List AV} {μ : Mem} {post : Option AV → Mem → Prop} {a0 a1 a2 a3 a4 a5 a6 : Option AV} {tl : List (Option AV)} {z : Nat} (d : decode K.2.1 pc = .ok (.aload 7, 2)) (k : AW K (pc + 2) (a0 :: a1 :: a2 :: a3 :: a4 :: a5 :: a6 :: some (.inr (.inr z)) :: tl) (.inr (.inr z) :: st) μ post) : AW K pc (a0 :: a1 :: a2 :: a3 :: a4 :: a5 :: a6 :: some (.inr (.inr z)) :: tl) st μ post := g_aload (i := 7) d rfl k

theorem s_aload_8 {K : MK} {pc : Nat} {st : List AV} {μ : Mem} {post : Option AV → Mem → Prop} {a0 a1 a2 a3 a4 a5 a6 a7 : Option AV} {tl : List (Option AV)} {z : Nat} (d : decode K.2.1 pc = .ok (.aload 8, 2)) (k : AW K (pc + 2) (a0 :: a1 :: a2 :: a3 :: a4 :: a5 :: a6 :: a7 :: some (.inr (.inr z)) :: tl) (.inr (.inr z) :: st) μ post) : AW K pc (a0 :: a1 :: a2 :: a3 :: a4 :: a5 :: a6 :: a7 :: some (.inr (.inr z)) :: tl) st μ post := g_aload (i := 8) d rfl k

theorem s_aload_9 {K : MK} {pc : Nat} {st : List AV} {μ : Mem} {post : Option AV → Mem → Prop} {a0 a1 a2 a3 a4 a5 a6 a7 a8 : Option AV} {tl : List (Option AV)} {z : Nat} (d : decode K.2.1 pc = .ok (.aload 9, 2)) (k : AW K (pc + 2) (a0 :: a1 :: a2 :: a3 :: a4 :: a5 :: a6 :: a7 :: a8 :: some (.inr (.inr z)) :: tl) (.inr (.inr z) :: st) μ post) : AW K pc (a0 :: a1 :: a2 :: a3 :: a4 :: a5 :: a6 :: a7 :: a8 :: some (.inr (.inr z)) :: tl) st μ post := g_aload (i := 9) d rfl k

theorem s_aload_10 {K : MK} {pc : Nat} {st : List AV} {μ : Mem} {post : Option AV → Mem → Prop} {a0 a1 a2 a3 a4 a5 a6 a7 a8 a9 : Option AV} {tl : List (Option AV)} {z : Nat} (d : decode K.2.1 pc = .ok (.aload 10, 2)) (k : AW K (pc + 2) (a0 :: a1 :: a2 :: a3 :: a4 :: a5 :: a6 :: a7 :: a8 :: a9 :: some (.inr (.inr z)) :: tl) (.inr (.inr z) :: st) μ post) : AW K pc (a0 :: a1 :: a2 :: a3 :: a4 :: a5 :: a6 :: a7 :: a8 :: a9 :: some (.inr (.inr z)) :: tl) st μ post := g_aload (i := 10) d rfl k

theorem s_aload_11 {K : MK} {pc : Nat} {st : List AV} {μ : Mem} {post : Option AV → Mem → Prop} {a0 a1 a2 a3 a4 a5 a6 a7 a8 a9 a10 : Option AV} {tl : List (Option AV)} {z : Nat} (d : decode K.2.1 pc = .ok (.aload 11, 2)) (k : AW K (pc + 2) (a0 :: a1 :: a2 :: a3 :: a4 :: a5 :: a6 :: a7 :: a8 :: a9 :: a10 :: some (.inr (.inr z)) :: tl) (.inr (.inr z) :: st) μ post) : AW K pc (a0 :: a1 :: a2 :: a3 :: a4 :: a5 :: a6 :: a7 :: a8 :: a9 :: a10 :: some (.inr (.inr z)) :: tl) st μ post := g_aload (i := 11) d rfl k

theorem s_aload_12 {K : MK} {pc : Nat} {st : List AV} {μ : Mem} {post : Option AV → Mem → Prop} {a0 a1 a2 a3 a4 a5 a6 a7 a8 a9 a10 a11 : Option AV} {tl : List (Option AV)} {z : Nat} (d : decode K.2.1 pc = .ok (.aload 12, 2)) (k : AW K (pc + 2) (a0 :: a1 :: a2 :: a3 :: a4 :: a5 :: a6 :: a7 :: a8 :: a9 :: a10 :: a11 :: some (.inr (.inr z)) :: tl) (.inr (.inr z) :: st) μ post) : AW K pc (a0 :: a1 :: a2 :: a3 :: a4 :: a5 :: a6 :: a7 :: a8 :: a9 :: a10 :: a11 :: some (.inr (.inr z)) :: tl) st μ post := g_aload (i := 12) d rfl k

theorem s_aload_13 {K : MK} {pc : Nat} {st : List AV} {μ : Mem} {post : Option AV → Mem → Prop} {a0 a1 a2 a3 a4 a5 a6 a7 a8 a9 a10 a11 a12 : Option AV} {tl : List (Option AV)} {z : Nat} (d : decode K.2.1 pc = .ok (.aload 13, 2)) (k : AW K (pc + 2) (a0 :: a1 :: a2 :: a3 :: a4 :: a5 :: a6 :: a7 :: a8 :: a9 :: a10 :: a11 :: a12 :: some (.inr (.inr z)) :: tl) (.inr (.inr z) :: st) μ post) : AW K pc (a0 :: a1 :: a2 :: a3 :: a4 :: a5 :: a6 :: a7 :: a8 :: a9 :: a10 :: a11 :: a12 :: some (.inr (.inr z)) :: tl) st μ post := g_aload (i := 13) d rfl k

theorem s_aload_14 {K : MK} {pc : Nat} {st : List AV} {μ : Mem} {post : Option AV → Mem → Prop} {a0 a1 a2 a3 a4 a5 a6 a7 a8 a9 a10 a11 a12 a13 : Option AV} {tl : List (Option AV)} {z : Nat} (d : decode K.2.1 pc = .ok (.aload 14, 2)) (k : AW K (pc + 2) (a0 :: a1 :: a2 :: a3 :: a4 :: a5 :: a6 :: a7 :: a8 :: a9 :: a10 :: a11 :: a12 :: a13 :: some (.inr (.inr z)) :: tl) (.inr (.inr z) :: st) μ post) : AW K pc (a0 :: a1 :: a2 :: a3 :: a4 :: a5 :: a6 :: a7 :: a8 :: a9 :: a10 :: a11 :: a12 :: a13 :: some (.inr (.inr z)) :: tl) st μ post := g_aload (i := 14) d rfl k
