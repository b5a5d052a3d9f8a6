/-! ===== the constructors ===== -/
def μ0 : Mem := fun c k => if c = 101 then -1 else if c = 118 then 1 else if c = 11 then (if 0 ≤ k ∧ k < 4 then 4 else 0) else if c = 48 then (if 0 ≤ k ∧ k < 4 then 4 else 0) else if c = 36 then (if 0 ≤ k ∧ k < 4 then -1 else 0) else if c = 39 then (if 0 ≤ k ∧ k < 4 then -1 else 0) else 0
abbrev aI (cI : ClassId) (k n : Nat) : va_E := .inl (cI, n, .inl (fun j => Int32.ofInt (μ0 k j)))
abbrev aL (cL : ClassId) (k n : Nat) : va_E := .inl (cL, n, .inr (.inl (fun j => Int64.ofInt (μ0 k j))))
def nestI : List Cond := [.methodLinkNest "LaughsLast" 11 yX3_init "LaughsLast", .methodLinkNest "LaughsLast" 55 yX2_init "LaughsLast", .methodLinkNest "LaughsLast" 62 yX6_init "LaughsLast", .methodLinkNest "LaughsLast" 69 yX5_init "LaughsLast", .methodLinkNest "LaughsLast" 76 yX7_init "LaughsLast"]
def NI (U : State) : Prop := ∀ w ∈ nestI, va_Nw w U
theorem nestI_form : ∀ w ∈ nestI, ∃ (a : String) (i : Nat) (x : MethodName) (h : String), w = .methodLinkNest a i x h := by
  intro w hw
  simp only [nestI, List.mem_cons, List.not_mem_nil, or_false] at hw
  rcases hw with rfl | rfl | rfl | rfl | rfl <;> exact ⟨_, _, _, _, rfl⟩
theorem nestI_tab : ∀ w ∈ nestI, w.onTables = true := by
  intro w hw
  obtain ⟨a, i, x, h, rfl⟩ := nestI_form w hw
  rfl
theorem NI.warm {s U : State} (hW : s.WarmedH U.vm) (h : NI s) : NI U := fun w hw => by
  have h1 := h w hw
  obtain ⟨a, i, x, hh, rfl⟩ := nestI_form w hw
  exact va_Nw.warmM hW h1
theorem tblG_hts {w : Cond} {args : Array Value} {s : State} {v : Cond} (h : ∀ w ∈ v :: tblG, w.before args s = true) (hw : w ∈ tblG) : w.before args s = true := h w (List.mem_cons_of_mem _ hw)
theorem cell_I {k n : Nat} (h : ∀ j : Int, μ0 k j = 0) (cA : ClassId) : vp_cell cA (n, .inl (fun j => Int32.ofInt (μ0 k j))) = arrV cA n (fun _ => defaultValue .int) := by
  show arrV cA n (fun j => .int (Int32.ofInt (μ0 k j))) = _
  congr 1
  funext j
  rw [h]
  rfl
theorem cell_Z {k n : Nat} (h : ∀ j : Int, μ0 k j = 0) (cA : ClassId) : vp_cell cA (n, .inl (fun j => Int32.ofInt (μ0 k j))) = arrV cA n (fun _ => defaultValue .boolean) := by
  show arrV cA n (fun j => .int (Int32.ofInt (μ0 k j))) = _
  congr 1
  funext j
  rw [h]
  rfl
theorem cell_L {k n : Nat} (h : ∀ j : Int, μ0 k j = 0) (cA : ClassId) : vp_cell cA (n, .inr (.inl (fun j => Int64.ofInt (μ0 k j)))) = arrV cA n (fun _ => defaultValue .long) := by
  show arrV cA n (fun j => .long (Int64.ofInt (μ0 k j))) = _
  congr 1
  funext j
  rw [h]
  rfl
theorem cell_0 {n : Nat} (cA : ClassId) : vp_cell cA (n, .inl (fun _ => 0)) = arrV cA n (fun _ => defaultValue .int) := rfl
theorem four4 {z : Int} : upd (upd (upd (upd (fun _ => 0) (Int32.ofInt 0).toNatClampNeg (Int32.ofInt z)) (Int32.ofInt 1).toNatClampNeg (Int32.ofInt z)) (Int32.ofInt 2).toNatClampNeg (Int32.ofInt z)) (Int32.ofInt 3).toNatClampNeg (Int32.ofInt z) = fun j : Nat => Int32.ofInt (if 0 ≤ (j : Int) ∧ (j : Int) < 4 then z else 0) := by
  have e0 : (Int32.ofInt 0).toNatClampNeg = 0 := by decide
  have e1 : (Int32.ofInt 1).toNatClampNeg = 1 := by decide
  have e2 : (Int32.ofInt 2).toNatClampNeg = 2 := by decide
  have e3 : (Int32.ofInt 3).toNatClampNeg = 3 := by decide
  rw [e0, e1, e2, e3]
  funext j
  unfold upd
  by_cases h : j < 4
  · rw [if_pos (show 0 ≤ (j : Int) ∧ (j : Int) < 4 by omega)]
    rcases (show j = 0 ∨ j = 1 ∨ j = 2 ∨ j = 3 by omega) with rfl | rfl | rfl | rfl <;> rfl
  · rw [if_neg (show ¬ (0 ≤ (j : Int) ∧ (j : Int) < 4) by omega), if_neg (by omega), if_neg (by omega), if_neg (by omega), if_neg (by omega)]
    rfl
/-- a new array, of a class that is known -/
theorem n_newa {p : Program} {l : Launch} {e : Env} {R : Room} {s : State} {m : MethodId} {args : Array Value} {below : List Frame} {meth : Method} {c : Code} {H : Heap} {locs : List Loc} {cells slots : Nat} {Q : State → Prop} {cc : ByteArray} {pc : Nat} {ls : Array Slot} {rest : List Value} {D : va_G} {cl : List vw_C} {tys : List (ClassId × FieldType)} {ws : va_W} {A : Nat → Prop} {H0 : Heap} (hexec : p.tables.exec = Jvm.exec) (hb : c.code = cc) {atype : ArrayType} (harr : (Cond.arrayClass (newarray.typeOf atype)).before args s = true) {ty : FieldType} (hty : newarray.typeOf atype = ty) (t0 : Nat) {cT : ClassId} (ht : tys[t0]? = some (cT, ty)) (hpr : ∀ (U : State) (x : ClassId), va_RA U x ty = (U.vm.findClass ("[" ++ ty.toString) = some x)) (hK : va_K D cl tys s) (hP : va_P D cl ws H) (hD : va_D A ws) (hS : va_S A H0 H locs) (hA : ∀ q, H0.size ≤ q → A q)
    {n : Int32} {N' : Nat} {a0 : vp_A} (ha : ∀ cA : ClassId, vp_cell cA a0 = arrV cA N' (fun _ => defaultValue ty)) (hn : ¬ n < 0) (hN : n.toNatClampNeg = N') (hbytes : N' * componentBytes ty ≤ 536870912) (hcells : cells + 1 ≤ R.cells) (hslots : slots + N' ≤ R.slots) (hdg : decode cc pc = .ok (.newarray atype, 2))
    (kk : ∀ (q : Nat) (H1 : Heap), va_P D cl (ws ++ [(q, .inl (cT, a0))]) H1 → va_D A (ws ++ [(q, .inl (cT, a0))]) → va_S A H0 H1 locs →
      W p l e R s m args below meth c H1 locs (cells + 1) (slots + N') Q (F0 m (pc + 2) ls (.ref q :: rest))) : W p l e R s m args below meth c H locs cells slots Q (F0 m pc ls (.int n :: rest)) := by
  refine va_newa hexec hb harr hty hK hP hD hS hA ha hn hN hbytes hcells hslots hdg (fun q cA H1 hK1 hP1 hD1 hS1 => ?_)
  have h1 := (hK.2 t0 _ ht).2
  have h2 := (hK1.2 tys.length (cA, ty) (by simp)).2
  rw [hpr] at h1 h2
  have h3 : cA = cT := Option.some.inj (h2.symm.trans h1)
  subst h3
  exact kk q H1 hP1 hD1 hS1
set_option maxHeartbeats 4000000 in
set_option maxRecDepth 100000 in
theorem n_X2_init (l : Launch) (D : va_G) (cI cL cZ : ClassId) (h0 : Nat) (sz : Nat) : Met l yX2_init (.code yX2_init cX2_init 1 none :: tblG) ({ frames := 1, cells := 0, slots := 0, locals := 12 }) (va_Pc [.ref h0] (fun U => U.heap.size = sz ∧ va_P D classes [(h0, .inr (2, [.int (Int32.ofInt 0)]))] U.heap ∧ va_K D classes [(cI, .int), (cL, .long), (cZ, .boolean)] U ∧ va_D (fun _ => True) [(h0, .inr (2, [.int (Int32.ofInt 0)]))])) (va_Qv (fun _ : Nat → Nat => True) (fun u t => va_P D classes [(h0, .inr (2, [.int (Int32.ofInt 0)]))] t.heap ∧ va_D (va_A [(h0, .inr (2, [.int (Int32.ofInt 0)]))] sz) [(h0, .inr (2, [.int (Int32.ofInt 0)]))]) (va_A [(h0, .inr (2, [.int (Int32.ofInt 0)]))] sz)) 0 0 (va_A [(h0, .inr (2, [.int (Int32.ofInt 0)]))] sz) := by
  refine Met.ofW (cc := cX2_init) (maxL := 1) (ret := none) (by decide) rfl ?_
  intro p e s m args below meth c s₁ B hml hv
  obtain ⟨rfl, hsz, hP, hK, hD0⟩ := hv
  have hx := B.exec
  have hb := B.bytes
  have hr := B.returns
  have hts0 := atoms_spec (ws := .code yX2_init cX2_init 1 none :: tblG) B.pre
  have hts : ∀ w ∈ tblG, w.before [.ref h0].toArray s = true := fun w hw => hts0 w (List.mem_cons_of_mem _ hw)
  have hown : s.vm.findClass RX2 = some m.cls := findClass_of_methodNamed B.named
  have hlocks := B.notSynchronized
  have hin : meth.name = "<init>" := (name_of_methodNamed B.named B.method).1
  subst hsz
  have hD := hD0.self (sz := s.heap.size)
  generalize hAe : va_A [(h0, .inr (2, [.int (Int32.ofInt 0)]))] s.heap.size = A at hD ⊢
  have hA : ∀ q : Nat, s.heap.size ≤ q → A q := fun q h => by rw [← hAe]; exact Or.inr h
  have hS : va_S A s.heap s.heap [] := va_S.rf
  have hl := lv_entry ([.ref h0]) (n := 1) (Nat.le_of_ble_eq_true rfl)
  rw [lg_entry_eq]
  generalize (lg_sl ([.ref h0]) ++ List.replicate (1 - (lg_sl ([.ref h0])).length) Slot.unset).toArray = ls at hl ⊢
  have hl : lv_has ls 1 [(0, .ref h0)] := hl
  refine lv_aload_n hx hb dX2_init_0 rfl (lv_at hl 0 rfl) ?_
  refine W.objInit hx hb hown (hts (.methodLink RX2 3 objectInit) (tc_1 222 rfl rfl)) (hts (.instanceMethod objectInit) (tc_1 20 rfl rfl)) (hts (.code objectInit ⟨#[0xb1]⟩ 1 none) (tc_1 21 rfl rfl)) rfl (by rw [hml]; exact hl.1) rfl dX2_init_1 (Nat.le_of_ble_eq_true rfl) (Nat.le_of_ble_eq_true rfl) ?_
  refine W.eq (g2 := F0 m 4 ls []) rfl ?_
  have hP : va_P D classes [(h0, .inr (2, [.int (Int32.ofInt 0)]))] s.heap := hP
  have hD : va_D A [(h0, .inr (2, [.int (Int32.ofInt 0)]))] := hD
  refine W.widen (k := 0) (n := 0) (Nat.le_of_ble_eq_true rfl) (Nat.le_of_ble_eq_true rfl) ?_
  exact W.vret hx hb hr (fun t ht hW => ⟨⟨(fun k => 0), rfl, trivial, by rw [ht]; exact hP, hD⟩, hS.F ht⟩) hS.2.2 dX2_init_4
set_option maxHeartbeats 4000000 in
set_option maxRecDepth 100000 in
theorem n_X6_init (l : Launch) (D : va_G) (cI cL cZ : ClassId) (h0 : Nat) (sz : Nat) : Met l yX6_init (.code yX6_init cX6_init 1 none :: tblG) ({ frames := 1, cells := 0, slots := 0, locals := 12 }) (va_Pc [.ref h0] (fun U => U.heap.size = sz ∧ va_P D classes [(h0, .inr (6, [.long (Int64.ofInt 0), .long (Int64.ofInt 0)]))] U.heap ∧ va_K D classes [(cI, .int), (cL, .long), (cZ, .boolean)] U ∧ va_D (fun _ => True) [(h0, .inr (6, [.long (Int64.ofInt 0), .long (Int64.ofInt 0)]))])) (va_Qv (fun _ : Nat → Nat => True) (fun u t => va_P D classes [(h0, .inr (6, [.long (Int64.ofInt 0), .long (Int64.ofInt 1)]))] t.heap ∧ va_D (va_A [(h0, .inr (6, [.long (Int64.ofInt 0), .long (Int64.ofInt 0)]))] sz) [(h0, .inr (6, [.long (Int64.ofInt 0), .long (Int64.ofInt 1)]))]) (va_A [(h0, .inr (6, [.long (Int64.ofInt 0), .long (Int64.ofInt 0)]))] sz)) 0 0 (va_A [(h0, .inr (6, [.long (Int64.ofInt 0), .long (Int64.ofInt 0)]))] sz) := by
  refine Met.ofW (cc := cX6_init) (maxL := 1) (ret := none) (by decide) rfl ?_
  intro p e s m args below meth c s₁ B hml hv
  obtain ⟨rfl, hsz, hP, hK, hD0⟩ := hv
  have hx := B.exec
  have hb := B.bytes
  have hr := B.returns
  have hts0 := atoms_spec (ws := .code yX6_init cX6_init 1 none :: tblG) B.pre
  have hts : ∀ w ∈ tblG, w.before [.ref h0].toArray s = true := fun w hw => hts0 w (List.mem_cons_of_mem _ hw)
  have hown : s.vm.findClass RX6 = some m.cls := findClass_of_methodNamed B.named
  have hlocks := B.notSynchronized
  have hin : meth.name = "<init>" := (name_of_methodNamed B.named B.method).1
  subst hsz
  have hD := hD0.self (sz := s.heap.size)
  generalize hAe : va_A [(h0, .inr (6, [.long (Int64.ofInt 0), .long (Int64.ofInt 0)]))] s.heap.size = A at hD ⊢
  have hA : ∀ q : Nat, s.heap.size ≤ q → A q := fun q h => by rw [← hAe]; exact Or.inr h
  have hS : va_S A s.heap s.heap [] := va_S.rf
  have hl := lv_entry ([.ref h0]) (n := 1) (Nat.le_of_ble_eq_true rfl)
  rw [lg_entry_eq]
  generalize (lg_sl ([.ref h0]) ++ List.replicate (1 - (lg_sl ([.ref h0])).length) Slot.unset).toArray = ls at hl ⊢
  have hl : lv_has ls 1 [(0, .ref h0)] := hl
  refine lv_aload_n hx hb dX6_init_0 rfl (lv_at hl 0 rfl) ?_
  refine W.objInit hx hb hown (hts (.methodLink RX6 1 objectInit) (tc_1 233 rfl rfl)) (hts (.instanceMethod objectInit) (tc_1 20 rfl rfl)) (hts (.code objectInit ⟨#[0xb1]⟩ 1 none) (tc_1 21 rfl rfl)) rfl (by rw [hml]; exact hl.1) rfl dX6_init_1 (Nat.le_of_ble_eq_true rfl) (Nat.le_of_ble_eq_true rfl) ?_
  refine W.eq (g2 := F0 m 4 ls []) rfl ?_
  refine lv_aload_n hx hb dX6_init_4 rfl (lv_at hl 0 rfl) ?_
  refine lv_lconst (v := Int64.ofInt 1) hx hb dX6_init_5 (by decide) ?_
  refine va_put (D := D) (ci := 6) (v := .long (Int64.ofInt 1)) (ty := tyX6 1) (C := RX6) (T := TX6) (N := 2) hx hb hts inK6 tyX6 tyX6_ok nmX6 hown hK hP hD hS 0 rfl rfl 1 (by decide) (hts (.fieldLink RX6 7 "LaughsLast$Share" "below" "J") (tc_1 235 rfl rfl)) (fun _ h9 => h9) rfl (tyX6_ok 1 (by decide)) rfl rfl (Nat.le_of_ble_eq_true rfl) dX6_init_6 (fun H locs hP hD hS => ?_)
  have hP : va_P D classes [(h0, .inr (6, [.long (Int64.ofInt 0), .long (Int64.ofInt 1)]))] H := hP
  have hD : va_D A [(h0, .inr (6, [.long (Int64.ofInt 0), .long (Int64.ofInt 1)]))] := hD
  have hP : va_P D classes [(h0, .inr (6, [.long (Int64.ofInt 0), .long (Int64.ofInt 1)]))] H := hP
  have hD : va_D A [(h0, .inr (6, [.long (Int64.ofInt 0), .long (Int64.ofInt 1)]))] := hD
  refine W.widen (k := 0) (n := 0) (Nat.le_of_ble_eq_true rfl) (Nat.le_of_ble_eq_true rfl) ?_
  exact W.vret hx hb hr (fun t ht hW => ⟨⟨(fun k => 0), rfl, trivial, by rw [ht]; exact hP, hD⟩, hS.F ht⟩) hS.2.2 dX6_init_9
set_option maxHeartbeats 4000000 in
set_option maxRecDepth 100000 in
theorem n_X3_init (l : Launch) (D : va_G) (cI cL cZ : ClassId) (h0 : Nat) (sz : Nat) : Met l yX3_init (.code yX3_init cX3_init 1 none :: tblG) ({ frames := 1, cells := 4, slots := 83, locals := 12 }) (va_Pc [.ref h0] (fun U => U.heap.size = sz ∧ va_P D classes [(h0, .inr (3, [.null, .int (Int32.ofInt 0), .int (Int32.ofInt 0), .int (Int32.ofInt 0), .int (Int32.ofInt 0), .null, .null, .null, .int (Int32.ofInt 0)]))] U.heap ∧ va_K D classes [(cI, .int), (cL, .long), (cZ, .boolean)] U ∧ va_D (fun _ => True) [(h0, .inr (3, [.null, .int (Int32.ofInt 0), .int (Int32.ofInt 0), .int (Int32.ofInt 0), .int (Int32.ofInt 0), .null, .null, .null, .int (Int32.ofInt 0)]))])) (va_Qv (fun _ : Nat → Nat => True) (fun u t => va_P D classes [(h0, .inr (3, [.ref (u 13), .int (Int32.ofInt 0), .int (Int32.ofInt (-1)), .int (Int32.ofInt 0), .int (Int32.ofInt 0), .ref (u 14), .ref (u 15), .ref (u 16), .int (Int32.ofInt 0)])), ((u 13), aI cI 13 60), ((u 14), aI cI 14 16), ((u 15), aI cI 15 4), ((u 16), aI cI 16 3)] t.heap ∧ va_D (va_A [(h0, .inr (3, [.null, .int (Int32.ofInt 0), .int (Int32.ofInt 0), .int (Int32.ofInt 0), .int (Int32.ofInt 0), .null, .null, .null, .int (Int32.ofInt 0)]))] sz) [(h0, .inr (3, [.ref (u 13), .int (Int32.ofInt 0), .int (Int32.ofInt (-1)), .int (Int32.ofInt 0), .int (Int32.ofInt 0), .ref (u 14), .ref (u 15), .ref (u 16), .int (Int32.ofInt 0)])), ((u 13), aI cI 13 60), ((u 14), aI cI 14 16), ((u 15), aI cI 15 4), ((u 16), aI cI 16 3)]) (va_A [(h0, .inr (3, [.null, .int (Int32.ofInt 0), .int (Int32.ofInt 0), .int (Int32.ofInt 0), .int (Int32.ofInt 0), .null, .null, .null, .int (Int32.ofInt 0)]))] sz)) 4 83 (va_A [(h0, .inr (3, [.null, .int (Int32.ofInt 0), .int (Int32.ofInt 0), .int (Int32.ofInt 0), .int (Int32.ofInt 0), .null, .null, .null, .int (Int32.ofInt 0)]))] sz) := by
  refine Met.ofW (cc := cX3_init) (maxL := 1) (ret := none) (by decide) rfl ?_
  intro p e s m args below meth c s₁ B hml hv
  obtain ⟨rfl, hsz, hP, hK, hD0⟩ := hv
  have hx := B.exec
  have hb := B.bytes
  have hr := B.returns
  have hts0 := atoms_spec (ws := .code yX3_init cX3_init 1 none :: tblG) B.pre
  have hts : ∀ w ∈ tblG, w.before [.ref h0].toArray s = true := fun w hw => hts0 w (List.mem_cons_of_mem _ hw)
  have hown : s.vm.findClass RX3 = some m.cls := findClass_of_methodNamed B.named
  have hlocks := B.notSynchronized
  have hin : meth.name = "<init>" := (name_of_methodNamed B.named B.method).1
  subst hsz
  have hD := hD0.self (sz := s.heap.size)
  generalize hAe : va_A [(h0, .inr (3, [.null, .int (Int32.ofInt 0), .int (Int32.ofInt 0), .int (Int32.ofInt 0), .int (Int32.ofInt 0), .null, .null, .null, .int (Int32.ofInt 0)]))] s.heap.size = A at hD ⊢
  have hA : ∀ q : Nat, s.heap.size ≤ q → A q := fun q h => by rw [← hAe]; exact Or.inr h
  have hS : va_S A s.heap s.heap [] := va_S.rf
  have hl := lv_entry ([.ref h0]) (n := 1) (Nat.le_of_ble_eq_true rfl)
  rw [lg_entry_eq]
  generalize (lg_sl ([.ref h0]) ++ List.replicate (1 - (lg_sl ([.ref h0])).length) Slot.unset).toArray = ls at hl ⊢
  have hl : lv_has ls 1 [(0, .ref h0)] := hl
  refine lv_aload_n hx hb dX3_init_0 rfl (lv_at hl 0 rfl) ?_
  refine W.objInit hx hb hown (hts (.methodLink RX3 3 objectInit) (tc_1 27 rfl rfl)) (hts (.instanceMethod objectInit) (tc_1 20 rfl rfl)) (hts (.code objectInit ⟨#[0xb1]⟩ 1 none) (tc_1 21 rfl rfl)) rfl (by rw [hml]; exact hl.1) rfl dX3_init_1 (Nat.le_of_ble_eq_true rfl) (Nat.le_of_ble_eq_true rfl) ?_
  refine W.eq (g2 := F0 m 4 ls []) rfl ?_
  refine lv_aload_n hx hb dX3_init_4 rfl (lv_at hl 0 rfl) ?_
  refine lv_bipush (v := Int32.ofInt (60)) hx hb dX3_init_5 (by decide) ?_
  refine n_newa (a0 := (60, .inl (fun j => Int32.ofInt (μ0 13 j)))) (N' := 60) (n := Int32.ofInt (60)) (ty := .int) (cT := cI) (atype := .int) hx hb (hts (.arrayClass .int) (tc_1 68 rfl rfl)) rfl 0 rfl (fun _ _ => rfl) hK hP hD hS hA (cell_I (fun _ => rfl)) (by decide) (by decide) (by decide) (Nat.le_of_ble_eq_true rfl) (Nat.le_of_ble_eq_true rfl) dX3_init_7 (fun q13 H hP hD hS => ?_)
  have hP : va_P D classes [(h0, .inr (3, [.null, .int (Int32.ofInt 0), .int (Int32.ofInt 0), .int (Int32.ofInt 0), .int (Int32.ofInt 0), .null, .null, .null, .int (Int32.ofInt 0)])), (q13, aI cI 13 60)] H := hP
  have hD : va_D A [(h0, .inr (3, [.null, .int (Int32.ofInt 0), .int (Int32.ofInt 0), .int (Int32.ofInt 0), .int (Int32.ofInt 0), .null, .null, .null, .int (Int32.ofInt 0)])), (q13, aI cI 13 60)] := hD
  refine va_putF (D := D) (ci := 3) (v := .ref q13) (ty := tyX3 0) (C := RX3) (T := TX3) (N := 9) hx hb hts inK3 tyX3 tyX3_ok nmX3 hown hK hP hD hS 0 rfl rfl 0 (by decide) (hts (.fieldLink RX3 9 "LaughsLast$Room" "text" "[I") (tc_1 28 rfl rfl)) (fun _ h9 => h9) rfl hin rfl (tyX3_ok 0 (by decide)) rfl rfl (Nat.le_of_ble_eq_true rfl) dX3_init_9 (fun H locs hP hD hS => ?_)
  have hP : va_P D classes [(h0, .inr (3, [.ref q13, .int (Int32.ofInt 0), .int (Int32.ofInt 0), .int (Int32.ofInt 0), .int (Int32.ofInt 0), .null, .null, .null, .int (Int32.ofInt 0)])), (q13, aI cI 13 60)] H := hP
  have hD : va_D A [(h0, .inr (3, [.ref q13, .int (Int32.ofInt 0), .int (Int32.ofInt 0), .int (Int32.ofInt 0), .int (Int32.ofInt 0), .null, .null, .null, .int (Int32.ofInt 0)])), (q13, aI cI 13 60)] := hD
  refine lv_aload_n hx hb dX3_init_12 rfl (lv_at hl 0 rfl) ?_
  refine lv_iconst (v := Int32.ofInt (-1)) hx hb dX3_init_13 rfl ?_
  refine va_put (D := D) (ci := 3) (v := .int (Int32.ofInt (-1))) (ty := tyX3 2) (C := RX3) (T := TX3) (N := 9) hx hb hts inK3 tyX3 tyX3_ok nmX3 hown hK hP hD hS 0 rfl rfl 2 (by decide) (hts (.fieldLink RX3 15 "LaughsLast$Room" "faultAt" "I") (tc_1 31 rfl rfl)) (fun _ h9 => h9) rfl (tyX3_ok 2 (by decide)) rfl rfl (Nat.le_of_ble_eq_true rfl) dX3_init_14 (fun H locs hP hD hS => ?_)
  have hP : va_P D classes [(h0, .inr (3, [.ref q13, .int (Int32.ofInt 0), .int (Int32.ofInt (-1)), .int (Int32.ofInt 0), .int (Int32.ofInt 0), .null, .null, .null, .int (Int32.ofInt 0)])), (q13, aI cI 13 60)] H := hP
  have hD : va_D A [(h0, .inr (3, [.ref q13, .int (Int32.ofInt 0), .int (Int32.ofInt (-1)), .int (Int32.ofInt 0), .int (Int32.ofInt 0), .null, .null, .null, .int (Int32.ofInt 0)])), (q13, aI cI 13 60)] := hD
  refine lv_aload_n hx hb dX3_init_17 rfl (lv_at hl 0 rfl) ?_
  refine lv_bipush (v := Int32.ofInt (16)) hx hb dX3_init_18 (by decide) ?_
  refine n_newa (a0 := (16, .inl (fun j => Int32.ofInt (μ0 14 j)))) (N' := 16) (n := Int32.ofInt (16)) (ty := .int) (cT := cI) (atype := .int) hx hb (hts (.arrayClass .int) (tc_1 68 rfl rfl)) rfl 0 rfl (fun _ _ => rfl) hK hP hD hS hA (cell_I (fun _ => rfl)) (by decide) (by decide) (by decide) (Nat.le_of_ble_eq_true rfl) (Nat.le_of_ble_eq_true rfl) dX3_init_20 (fun q14 H hP hD hS => ?_)
  have hP : va_P D classes [(h0, .inr (3, [.ref q13, .int (Int32.ofInt 0), .int (Int32.ofInt (-1)), .int (Int32.ofInt 0), .int (Int32.ofInt 0), .null, .null, .null, .int (Int32.ofInt 0)])), (q13, aI cI 13 60), (q14, aI cI 14 16)] H := hP
  have hD : va_D A [(h0, .inr (3, [.ref q13, .int (Int32.ofInt 0), .int (Int32.ofInt (-1)), .int (Int32.ofInt 0), .int (Int32.ofInt 0), .null, .null, .null, .int (Int32.ofInt 0)])), (q13, aI cI 13 60), (q14, aI cI 14 16)] := hD
  refine va_putF (D := D) (ci := 3) (v := .ref q14) (ty := tyX3 5) (C := RX3) (T := TX3) (N := 9) hx hb hts inK3 tyX3 tyX3_ok nmX3 hown hK hP hD hS 0 rfl rfl 5 (by decide) (hts (.fieldLink RX3 19 "LaughsLast$Room" "figures" "[I") (tc_1 39 rfl rfl)) (fun _ h9 => h9) rfl hin rfl (tyX3_ok 5 (by decide)) rfl rfl (Nat.le_of_ble_eq_true rfl) dX3_init_22 (fun H locs hP hD hS => ?_)
  have hP : va_P D classes [(h0, .inr (3, [.ref q13, .int (Int32.ofInt 0), .int (Int32.ofInt (-1)), .int (Int32.ofInt 0), .int (Int32.ofInt 0), .ref q14, .null, .null, .int (Int32.ofInt 0)])), (q13, aI cI 13 60), (q14, aI cI 14 16)] H := hP
  have hD : va_D A [(h0, .inr (3, [.ref q13, .int (Int32.ofInt 0), .int (Int32.ofInt (-1)), .int (Int32.ofInt 0), .int (Int32.ofInt 0), .ref q14, .null, .null, .int (Int32.ofInt 0)])), (q13, aI cI 13 60), (q14, aI cI 14 16)] := hD
  refine lv_aload_n hx hb dX3_init_25 rfl (lv_at hl 0 rfl) ?_
  refine lv_iconst (v := Int32.ofInt (4)) hx hb dX3_init_26 rfl ?_
  refine n_newa (a0 := (4, .inl (fun j => Int32.ofInt (μ0 15 j)))) (N' := 4) (n := Int32.ofInt (4)) (ty := .int) (cT := cI) (atype := .int) hx hb (hts (.arrayClass .int) (tc_1 68 rfl rfl)) rfl 0 rfl (fun _ _ => rfl) hK hP hD hS hA (cell_I (fun _ => rfl)) (by decide) (by decide) (by decide) (Nat.le_of_ble_eq_true rfl) (Nat.le_of_ble_eq_true rfl) dX3_init_27 (fun q15 H hP hD hS => ?_)
  have hP : va_P D classes [(h0, .inr (3, [.ref q13, .int (Int32.ofInt 0), .int (Int32.ofInt (-1)), .int (Int32.ofInt 0), .int (Int32.ofInt 0), .ref q14, .null, .null, .int (Int32.ofInt 0)])), (q13, aI cI 13 60), (q14, aI cI 14 16), (q15, aI cI 15 4)] H := hP
  have hD : va_D A [(h0, .inr (3, [.ref q13, .int (Int32.ofInt 0), .int (Int32.ofInt (-1)), .int (Int32.ofInt 0), .int (Int32.ofInt 0), .ref q14, .null, .null, .int (Int32.ofInt 0)])), (q13, aI cI 13 60), (q14, aI cI 14 16), (q15, aI cI 15 4)] := hD
  refine va_putF (D := D) (ci := 3) (v := .ref q15) (ty := tyX3 6) (C := RX3) (T := TX3) (N := 9) hx hb hts inK3 tyX3 tyX3_ok nmX3 hown hK hP hD hS 0 rfl rfl 6 (by decide) (hts (.fieldLink RX3 22 "LaughsLast$Room" "funny" "[I") (tc_1 42 rfl rfl)) (fun _ h9 => h9) rfl hin rfl (tyX3_ok 6 (by decide)) rfl rfl (Nat.le_of_ble_eq_true rfl) dX3_init_29 (fun H locs hP hD hS => ?_)
  have hP : va_P D classes [(h0, .inr (3, [.ref q13, .int (Int32.ofInt 0), .int (Int32.ofInt (-1)), .int (Int32.ofInt 0), .int (Int32.ofInt 0), .ref q14, .ref q15, .null, .int (Int32.ofInt 0)])), (q13, aI cI 13 60), (q14, aI cI 14 16), (q15, aI cI 15 4)] H := hP
  have hD : va_D A [(h0, .inr (3, [.ref q13, .int (Int32.ofInt 0), .int (Int32.ofInt (-1)), .int (Int32.ofInt 0), .int (Int32.ofInt 0), .ref q14, .ref q15, .null, .int (Int32.ofInt 0)])), (q13, aI cI 13 60), (q14, aI cI 14 16), (q15, aI cI 15 4)] := hD
  refine lv_aload_n hx hb dX3_init_32 rfl (lv_at hl 0 rfl) ?_
  refine lv_iconst (v := Int32.ofInt (3)) hx hb dX3_init_33 rfl ?_
  refine n_newa (a0 := (3, .inl (fun j => Int32.ofInt (μ0 16 j)))) (N' := 3) (n := Int32.ofInt (3)) (ty := .int) (cT := cI) (atype := .int) hx hb (hts (.arrayClass .int) (tc_1 68 rfl rfl)) rfl 0 rfl (fun _ _ => rfl) hK hP hD hS hA (cell_I (fun _ => rfl)) (by decide) (by decide) (by decide) (Nat.le_of_ble_eq_true rfl) (Nat.le_of_ble_eq_true rfl) dX3_init_34 (fun q16 H hP hD hS => ?_)
  have hP : va_P D classes [(h0, .inr (3, [.ref q13, .int (Int32.ofInt 0), .int (Int32.ofInt (-1)), .int (Int32.ofInt 0), .int (Int32.ofInt 0), .ref q14, .ref q15, .null, .int (Int32.ofInt 0)])), (q13, aI cI 13 60), (q14, aI cI 14 16), (q15, aI cI 15 4), (q16, aI cI 16 3)] H := hP
  have hD : va_D A [(h0, .inr (3, [.ref q13, .int (Int32.ofInt 0), .int (Int32.ofInt (-1)), .int (Int32.ofInt 0), .int (Int32.ofInt 0), .ref q14, .ref q15, .null, .int (Int32.ofInt 0)])), (q13, aI cI 13 60), (q14, aI cI 14 16), (q15, aI cI 15 4), (q16, aI cI 16 3)] := hD
  refine va_putF (D := D) (ci := 3) (v := .ref q16) (ty := tyX3 7) (C := RX3) (T := TX3) (N := 9) hx hb hts inK3 tyX3 tyX3_ok nmX3 hown hK hP hD hS 0 rfl rfl 7 (by decide) (hts (.fieldLink RX3 25 "LaughsLast$Room" "rules" "[I") (tc_1 45 rfl rfl)) (fun _ h9 => h9) rfl hin rfl (tyX3_ok 7 (by decide)) rfl rfl (Nat.le_of_ble_eq_true rfl) dX3_init_36 (fun H locs hP hD hS => ?_)
  have hP : va_P D classes [(h0, .inr (3, [.ref q13, .int (Int32.ofInt 0), .int (Int32.ofInt (-1)), .int (Int32.ofInt 0), .int (Int32.ofInt 0), .ref q14, .ref q15, .ref q16, .int (Int32.ofInt 0)])), (q13, aI cI 13 60), (q14, aI cI 14 16), (q15, aI cI 15 4), (q16, aI cI 16 3)] H := hP
  have hD : va_D A [(h0, .inr (3, [.ref q13, .int (Int32.ofInt 0), .int (Int32.ofInt (-1)), .int (Int32.ofInt 0), .int (Int32.ofInt 0), .ref q14, .ref q15, .ref q16, .int (Int32.ofInt 0)])), (q13, aI cI 13 60), (q14, aI cI 14 16), (q15, aI cI 15 4), (q16, aI cI 16 3)] := hD
  have hP : va_P D classes [(h0, .inr (3, [.ref q13, .int (Int32.ofInt 0), .int (Int32.ofInt (-1)), .int (Int32.ofInt 0), .int (Int32.ofInt 0), .ref q14, .ref q15, .ref q16, .int (Int32.ofInt 0)])), (q13, aI cI 13 60), (q14, aI cI 14 16), (q15, aI cI 15 4), (q16, aI cI 16 3)] H := hP
  have hD : va_D A [(h0, .inr (3, [.ref q13, .int (Int32.ofInt 0), .int (Int32.ofInt (-1)), .int (Int32.ofInt 0), .int (Int32.ofInt 0), .ref q14, .ref q15, .ref q16, .int (Int32.ofInt 0)])), (q13, aI cI 13 60), (q14, aI cI 14 16), (q15, aI cI 15 4), (q16, aI cI 16 3)] := hD
  refine W.widen (k := 4) (n := 83) (Nat.le_of_ble_eq_true rfl) (Nat.le_of_ble_eq_true rfl) ?_
  exact W.vret hx hb hr (fun t ht hW => ⟨⟨(fun k => if k = 13 then q13 else if k = 14 then q14 else if k = 15 then q15 else if k = 16 then q16 else 0), rfl, trivial, by rw [ht]; exact hP, hD⟩, hS.F ht⟩) hS.2.2 dX3_init_39
set_option maxHeartbeats 4000000 in
set_option maxRecDepth 100000 in
theorem n_X1_init (l : Launch) (D : va_G) (cI cL cZ : ClassId) (h0 : Nat) (sz : Nat) (r0 : Nat) (r1 : Nat) (r2 : Nat) : Met l yX1_init (.code yX1_init cX1_init 4 none :: tblG) ({ frames := 1, cells := 4, slots := 28, locals := 12 }) (va_Pc [.ref h0, .ref r0, .ref r1, .ref r2] (fun U => U.heap.size = sz ∧ va_P D classes [(h0, .inr (1, [.null, .null, .null, .int (Int32.ofInt 0), .int (Int32.ofInt 0), .int (Int32.ofInt 0), .int (Int32.ofInt 0), .int (Int32.ofInt 0), .int (Int32.ofInt 0), .null, .null, .null, .null]))] U.heap ∧ va_K D classes [(cI, .int), (cL, .long), (cZ, .boolean)] U ∧ va_D (fun _ => True) [(h0, .inr (1, [.null, .null, .null, .int (Int32.ofInt 0), .int (Int32.ofInt 0), .int (Int32.ofInt 0), .int (Int32.ofInt 0), .int (Int32.ofInt 0), .int (Int32.ofInt 0), .null, .null, .null, .null]))])) (va_Qv (fun _ : Nat → Nat => True) (fun u t => va_P D classes [(h0, .inr (1, [.ref r0, .ref r1, .ref r2, .int (Int32.ofInt 0), .int (Int32.ofInt 0), .int (Int32.ofInt 0), .int (Int32.ofInt 0), .int (Int32.ofInt 0), .int (Int32.ofInt 0), .ref (u 17), .ref (u 18), .ref (u 19), .ref (u 20)])), ((u 17), aI cI 17 16), ((u 18), aI cI 18 4), ((u 19), aI cI 19 4), ((u 20), aI cI 20 4)] t.heap ∧ va_D (va_A [(h0, .inr (1, [.null, .null, .null, .int (Int32.ofInt 0), .int (Int32.ofInt 0), .int (Int32.ofInt 0), .int (Int32.ofInt 0), .int (Int32.ofInt 0), .int (Int32.ofInt 0), .null, .null, .null, .null]))] sz) [(h0, .inr (1, [.ref r0, .ref r1, .ref r2, .int (Int32.ofInt 0), .int (Int32.ofInt 0), .int (Int32.ofInt 0), .int (Int32.ofInt 0), .int (Int32.ofInt 0), .int (Int32.ofInt 0), .ref (u 17), .ref (u 18), .ref (u 19), .ref (u 20)])), ((u 17), aI cI 17 16), ((u 18), aI cI 18 4), ((u 19), aI cI 19 4), ((u 20), aI cI 20 4)]) (va_A [(h0, .inr (1, [.null, .null, .null, .int (Int32.ofInt 0), .int (Int32.ofInt 0), .int (Int32.ofInt 0), .int (Int32.ofInt 0), .int (Int32.ofInt 0), .int (Int32.ofInt 0), .null, .null, .null, .null]))] sz)) 4 28 (va_A [(h0, .inr (1, [.null, .null, .null, .int (Int32.ofInt 0), .int (Int32.ofInt 0), .int (Int32.ofInt 0), .int (Int32.ofInt 0), .int (Int32.ofInt 0), .int (Int32.ofInt 0), .null, .null, .null, .null]))] sz) := by
  refine Met.ofW (cc := cX1_init) (maxL := 4) (ret := none) (by decide) rfl ?_
  intro p e s m args below meth c s₁ B hml hv
  obtain ⟨rfl, hsz, hP, hK, hD0⟩ := hv
  have hx := B.exec
  have hb := B.bytes
  have hr := B.returns
  have hts0 := atoms_spec (ws := .code yX1_init cX1_init 4 none :: tblG) B.pre
  have hts : ∀ w ∈ tblG, w.before [.ref h0, .ref r0, .ref r1, .ref r2].toArray s = true := fun w hw => hts0 w (List.mem_cons_of_mem _ hw)
  have hown : s.vm.findClass RX1 = some m.cls := findClass_of_methodNamed B.named
  have hlocks := B.notSynchronized
  have hin : meth.name = "<init>" := (name_of_methodNamed B.named B.method).1
  subst hsz
  have hD := hD0.self (sz := s.heap.size)
  generalize hAe : va_A [(h0, .inr (1, [.null, .null, .null, .int (Int32.ofInt 0), .int (Int32.ofInt 0), .int (Int32.ofInt 0), .int (Int32.ofInt 0), .int (Int32.ofInt 0), .int (Int32.ofInt 0), .null, .null, .null, .null]))] s.heap.size = A at hD ⊢
  have hA : ∀ q : Nat, s.heap.size ≤ q → A q := fun q h => by rw [← hAe]; exact Or.inr h
  have hS : va_S A s.heap s.heap [] := va_S.rf
  have hl := lv_entry ([.ref h0, .ref r0, .ref r1, .ref r2]) (n := 4) (Nat.le_of_ble_eq_true rfl)
  rw [lg_entry_eq]
  generalize (lg_sl ([.ref h0, .ref r0, .ref r1, .ref r2]) ++ List.replicate (4 - (lg_sl ([.ref h0, .ref r0, .ref r1, .ref r2])).length) Slot.unset).toArray = ls at hl ⊢
  have hl : lv_has ls 4 [(0, .ref h0), (1, .ref r0), (2, .ref r1), (3, .ref r2)] := hl
  refine lv_aload_n hx hb dX1_init_0 rfl (lv_at hl 0 rfl) ?_
  refine W.objInit hx hb hown (hts (.methodLink RX1 3 objectInit) (tc_1 74 rfl rfl)) (hts (.instanceMethod objectInit) (tc_1 20 rfl rfl)) (hts (.code objectInit ⟨#[0xb1]⟩ 1 none) (tc_1 21 rfl rfl)) rfl (by rw [hml]; exact hl.1) rfl dX1_init_1 (Nat.le_of_ble_eq_true rfl) (Nat.le_of_ble_eq_true rfl) ?_
  refine W.eq (g2 := F0 m 4 ls []) rfl ?_
  refine lv_aload_n hx hb dX1_init_4 rfl (lv_at hl 0 rfl) ?_
  refine lv_bipush (v := Int32.ofInt (16)) hx hb dX1_init_5 (by decide) ?_
  refine n_newa (a0 := (16, .inl (fun j => Int32.ofInt (μ0 17 j)))) (N' := 16) (n := Int32.ofInt (16)) (ty := .int) (cT := cI) (atype := .int) hx hb (hts (.arrayClass .int) (tc_1 68 rfl rfl)) rfl 0 rfl (fun _ _ => rfl) hK hP hD hS hA (cell_I (fun _ => rfl)) (by decide) (by decide) (by decide) (Nat.le_of_ble_eq_true rfl) (Nat.le_of_ble_eq_true rfl) dX1_init_7 (fun q17 H hP hD hS => ?_)
  have hP : va_P D classes [(h0, .inr (1, [.null, .null, .null, .int (Int32.ofInt 0), .int (Int32.ofInt 0), .int (Int32.ofInt 0), .int (Int32.ofInt 0), .int (Int32.ofInt 0), .int (Int32.ofInt 0), .null, .null, .null, .null])), (q17, aI cI 17 16)] H := hP
  have hD : va_D A [(h0, .inr (1, [.null, .null, .null, .int (Int32.ofInt 0), .int (Int32.ofInt 0), .int (Int32.ofInt 0), .int (Int32.ofInt 0), .int (Int32.ofInt 0), .int (Int32.ofInt 0), .null, .null, .null, .null])), (q17, aI cI 17 16)] := hD
  refine va_putF (D := D) (ci := 1) (v := .ref q17) (ty := tyX1 9) (C := RX1) (T := TX1) (N := 13) hx hb hts inK1 tyX1 tyX1_ok nmX1 hown hK hP hD hS 0 rfl rfl 9 (by decide) (hts (.fieldLink RX1 9 "LaughsLast$Company" "figures" "[I") (tc_1 102 rfl rfl)) (fun _ h9 => h9) rfl hin rfl (tyX1_ok 9 (by decide)) rfl rfl (Nat.le_of_ble_eq_true rfl) dX1_init_9 (fun H locs hP hD hS => ?_)
  have hP : va_P D classes [(h0, .inr (1, [.null, .null, .null, .int (Int32.ofInt 0), .int (Int32.ofInt 0), .int (Int32.ofInt 0), .int (Int32.ofInt 0), .int (Int32.ofInt 0), .int (Int32.ofInt 0), .ref q17, .null, .null, .null])), (q17, aI cI 17 16)] H := hP
  have hD : va_D A [(h0, .inr (1, [.null, .null, .null, .int (Int32.ofInt 0), .int (Int32.ofInt 0), .int (Int32.ofInt 0), .int (Int32.ofInt 0), .int (Int32.ofInt 0), .int (Int32.ofInt 0), .ref q17, .null, .null, .null])), (q17, aI cI 17 16)] := hD
  refine lv_aload_n hx hb dX1_init_12 rfl (lv_at hl 0 rfl) ?_
  refine lv_iconst (v := Int32.ofInt (4)) hx hb dX1_init_13 rfl ?_
  refine n_newa (a0 := (4, .inl (fun j => Int32.ofInt (μ0 18 j)))) (N' := 4) (n := Int32.ofInt (4)) (ty := .int) (cT := cI) (atype := .int) hx hb (hts (.arrayClass .int) (tc_1 68 rfl rfl)) rfl 0 rfl (fun _ _ => rfl) hK hP hD hS hA (cell_I (fun _ => rfl)) (by decide) (by decide) (by decide) (Nat.le_of_ble_eq_true rfl) (Nat.le_of_ble_eq_true rfl) dX1_init_14 (fun q18 H hP hD hS => ?_)
  have hP : va_P D classes [(h0, .inr (1, [.null, .null, .null, .int (Int32.ofInt 0), .int (Int32.ofInt 0), .int (Int32.ofInt 0), .int (Int32.ofInt 0), .int (Int32.ofInt 0), .int (Int32.ofInt 0), .ref q17, .null, .null, .null])), (q17, aI cI 17 16), (q18, aI cI 18 4)] H := hP
  have hD : va_D A [(h0, .inr (1, [.null, .null, .null, .int (Int32.ofInt 0), .int (Int32.ofInt 0), .int (Int32.ofInt 0), .int (Int32.ofInt 0), .int (Int32.ofInt 0), .int (Int32.ofInt 0), .ref q17, .null, .null, .null])), (q17, aI cI 17 16), (q18, aI cI 18 4)] := hD
  refine va_putF (D := D) (ci := 1) (v := .ref q18) (ty := tyX1 10) (C := RX1) (T := TX1) (N := 13) hx hb hts inK1 tyX1 tyX1_ok nmX1 hown hK hP hD hS 0 rfl rfl 10 (by decide) (hts (.fieldLink RX1 15 "LaughsLast$Company" "funny" "[I") (tc_1 104 rfl rfl)) (fun _ h9 => h9) rfl hin rfl (tyX1_ok 10 (by decide)) rfl rfl (Nat.le_of_ble_eq_true rfl) dX1_init_16 (fun H locs hP hD hS => ?_)
  have hP : va_P D classes [(h0, .inr (1, [.null, .null, .null, .int (Int32.ofInt 0), .int (Int32.ofInt 0), .int (Int32.ofInt 0), .int (Int32.ofInt 0), .int (Int32.ofInt 0), .int (Int32.ofInt 0), .ref q17, .ref q18, .null, .null])), (q17, aI cI 17 16), (q18, aI cI 18 4)] H := hP
  have hD : va_D A [(h0, .inr (1, [.null, .null, .null, .int (Int32.ofInt 0), .int (Int32.ofInt 0), .int (Int32.ofInt 0), .int (Int32.ofInt 0), .int (Int32.ofInt 0), .int (Int32.ofInt 0), .ref q17, .ref q18, .null, .null])), (q17, aI cI 17 16), (q18, aI cI 18 4)] := hD
  refine lv_aload_n hx hb dX1_init_19 rfl (lv_at hl 0 rfl) ?_
  refine lv_iconst (v := Int32.ofInt (4)) hx hb dX1_init_20 rfl ?_
  refine n_newa (a0 := (4, .inl (fun j => Int32.ofInt (μ0 19 j)))) (N' := 4) (n := Int32.ofInt (4)) (ty := .int) (cT := cI) (atype := .int) hx hb (hts (.arrayClass .int) (tc_1 68 rfl rfl)) rfl 0 rfl (fun _ _ => rfl) hK hP hD hS hA (cell_I (fun _ => rfl)) (by decide) (by decide) (by decide) (Nat.le_of_ble_eq_true rfl) (Nat.le_of_ble_eq_true rfl) dX1_init_21 (fun q19 H hP hD hS => ?_)
  have hP : va_P D classes [(h0, .inr (1, [.null, .null, .null, .int (Int32.ofInt 0), .int (Int32.ofInt 0), .int (Int32.ofInt 0), .int (Int32.ofInt 0), .int (Int32.ofInt 0), .int (Int32.ofInt 0), .ref q17, .ref q18, .null, .null])), (q17, aI cI 17 16), (q18, aI cI 18 4), (q19, aI cI 19 4)] H := hP
  have hD : va_D A [(h0, .inr (1, [.null, .null, .null, .int (Int32.ofInt 0), .int (Int32.ofInt 0), .int (Int32.ofInt 0), .int (Int32.ofInt 0), .int (Int32.ofInt 0), .int (Int32.ofInt 0), .ref q17, .ref q18, .null, .null])), (q17, aI cI 17 16), (q18, aI cI 18 4), (q19, aI cI 19 4)] := hD
  refine va_putF (D := D) (ci := 1) (v := .ref q19) (ty := tyX1 11) (C := RX1) (T := TX1) (N := 13) hx hb hts inK1 tyX1 tyX1_ok nmX1 hown hK hP hD hS 0 rfl rfl 11 (by decide) (hts (.fieldLink RX1 18 "LaughsLast$Company" "holds" "[I") (tc_1 106 rfl rfl)) (fun _ h9 => h9) rfl hin rfl (tyX1_ok 11 (by decide)) rfl rfl (Nat.le_of_ble_eq_true rfl) dX1_init_23 (fun H locs hP hD hS => ?_)
  have hP : va_P D classes [(h0, .inr (1, [.null, .null, .null, .int (Int32.ofInt 0), .int (Int32.ofInt 0), .int (Int32.ofInt 0), .int (Int32.ofInt 0), .int (Int32.ofInt 0), .int (Int32.ofInt 0), .ref q17, .ref q18, .ref q19, .null])), (q17, aI cI 17 16), (q18, aI cI 18 4), (q19, aI cI 19 4)] H := hP
  have hD : va_D A [(h0, .inr (1, [.null, .null, .null, .int (Int32.ofInt 0), .int (Int32.ofInt 0), .int (Int32.ofInt 0), .int (Int32.ofInt 0), .int (Int32.ofInt 0), .int (Int32.ofInt 0), .ref q17, .ref q18, .ref q19, .null])), (q17, aI cI 17 16), (q18, aI cI 18 4), (q19, aI cI 19 4)] := hD
  refine lv_aload_n hx hb dX1_init_26 rfl (lv_at hl 0 rfl) ?_
  refine lv_iconst (v := Int32.ofInt (4)) hx hb dX1_init_27 rfl ?_
  refine n_newa (a0 := (4, .inl (fun j => Int32.ofInt (μ0 20 j)))) (N' := 4) (n := Int32.ofInt (4)) (ty := .int) (cT := cI) (atype := .int) hx hb (hts (.arrayClass .int) (tc_1 68 rfl rfl)) rfl 0 rfl (fun _ _ => rfl) hK hP hD hS hA (cell_I (fun _ => rfl)) (by decide) (by decide) (by decide) (Nat.le_of_ble_eq_true rfl) (Nat.le_of_ble_eq_true rfl) dX1_init_28 (fun q20 H hP hD hS => ?_)
  have hP : va_P D classes [(h0, .inr (1, [.null, .null, .null, .int (Int32.ofInt 0), .int (Int32.ofInt 0), .int (Int32.ofInt 0), .int (Int32.ofInt 0), .int (Int32.ofInt 0), .int (Int32.ofInt 0), .ref q17, .ref q18, .ref q19, .null])), (q17, aI cI 17 16), (q18, aI cI 18 4), (q19, aI cI 19 4), (q20, aI cI 20 4)] H := hP
  have hD : va_D A [(h0, .inr (1, [.null, .null, .null, .int (Int32.ofInt 0), .int (Int32.ofInt 0), .int (Int32.ofInt 0), .int (Int32.ofInt 0), .int (Int32.ofInt 0), .int (Int32.ofInt 0), .ref q17, .ref q18, .ref q19, .null])), (q17, aI cI 17 16), (q18, aI cI 18 4), (q19, aI cI 19 4), (q20, aI cI 20 4)] := hD
  refine va_putF (D := D) (ci := 1) (v := .ref q20) (ty := tyX1 12) (C := RX1) (T := TX1) (N := 13) hx hb hts inK1 tyX1 tyX1_ok nmX1 hown hK hP hD hS 0 rfl rfl 12 (by decide) (hts (.fieldLink RX1 21 "LaughsLast$Company" "leaves" "[I") (tc_1 109 rfl rfl)) (fun _ h9 => h9) rfl hin rfl (tyX1_ok 12 (by decide)) rfl rfl (Nat.le_of_ble_eq_true rfl) dX1_init_30 (fun H locs hP hD hS => ?_)
  have hP : va_P D classes [(h0, .inr (1, [.null, .null, .null, .int (Int32.ofInt 0), .int (Int32.ofInt 0), .int (Int32.ofInt 0), .int (Int32.ofInt 0), .int (Int32.ofInt 0), .int (Int32.ofInt 0), .ref q17, .ref q18, .ref q19, .ref q20])), (q17, aI cI 17 16), (q18, aI cI 18 4), (q19, aI cI 19 4), (q20, aI cI 20 4)] H := hP
  have hD : va_D A [(h0, .inr (1, [.null, .null, .null, .int (Int32.ofInt 0), .int (Int32.ofInt 0), .int (Int32.ofInt 0), .int (Int32.ofInt 0), .int (Int32.ofInt 0), .int (Int32.ofInt 0), .ref q17, .ref q18, .ref q19, .ref q20])), (q17, aI cI 17 16), (q18, aI cI 18 4), (q19, aI cI 19 4), (q20, aI cI 20 4)] := hD
  refine lv_aload_n hx hb dX1_init_33 rfl (lv_at hl 0 rfl) ?_
  refine lv_aload_n hx hb dX1_init_34 rfl (lv_at hl 1 rfl) ?_
  refine va_putF (D := D) (ci := 1) (v := .ref r0) (ty := tyX1 0) (C := RX1) (T := TX1) (N := 13) hx hb hts inK1 tyX1 tyX1_ok nmX1 hown hK hP hD hS 0 rfl rfl 0 (by decide) (hts (.fieldLink RX1 24 "LaughsLast$Company" "room" "LLaughsLast$Room;") (tc_1 75 rfl rfl)) (fun _ h9 => h9) rfl hin rfl (tyX1_ok 0 (by decide)) rfl rfl (Nat.le_of_ble_eq_true rfl) dX1_init_35 (fun H locs hP hD hS => ?_)
  have hP : va_P D classes [(h0, .inr (1, [.ref r0, .null, .null, .int (Int32.ofInt 0), .int (Int32.ofInt 0), .int (Int32.ofInt 0), .int (Int32.ofInt 0), .int (Int32.ofInt 0), .int (Int32.ofInt 0), .ref q17, .ref q18, .ref q19, .ref q20])), (q17, aI cI 17 16), (q18, aI cI 18 4), (q19, aI cI 19 4), (q20, aI cI 20 4)] H := hP
  have hD : va_D A [(h0, .inr (1, [.ref r0, .null, .null, .int (Int32.ofInt 0), .int (Int32.ofInt 0), .int (Int32.ofInt 0), .int (Int32.ofInt 0), .int (Int32.ofInt 0), .int (Int32.ofInt 0), .ref q17, .ref q18, .ref q19, .ref q20])), (q17, aI cI 17 16), (q18, aI cI 18 4), (q19, aI cI 19 4), (q20, aI cI 20 4)] := hD
  refine lv_aload_n hx hb dX1_init_38 rfl (lv_at hl 0 rfl) ?_
  refine lv_aload_n hx hb dX1_init_39 rfl (lv_at hl 2 rfl) ?_
  refine va_putF (D := D) (ci := 1) (v := .ref r1) (ty := tyX1 1) (C := RX1) (T := TX1) (N := 13) hx hb hts inK1 tyX1 tyX1_ok nmX1 hown hK hP hD hS 0 rfl rfl 1 (by decide) (hts (.fieldLink RX1 28 "LaughsLast$Company" "holding" "[I") (tc_1 76 rfl rfl)) (fun _ h9 => h9) rfl hin rfl (tyX1_ok 1 (by decide)) rfl rfl (Nat.le_of_ble_eq_true rfl) dX1_init_40 (fun H locs hP hD hS => ?_)
  have hP : va_P D classes [(h0, .inr (1, [.ref r0, .ref r1, .null, .int (Int32.ofInt 0), .int (Int32.ofInt 0), .int (Int32.ofInt 0), .int (Int32.ofInt 0), .int (Int32.ofInt 0), .int (Int32.ofInt 0), .ref q17, .ref q18, .ref q19, .ref q20])), (q17, aI cI 17 16), (q18, aI cI 18 4), (q19, aI cI 19 4), (q20, aI cI 20 4)] H := hP
  have hD : va_D A [(h0, .inr (1, [.ref r0, .ref r1, .null, .int (Int32.ofInt 0), .int (Int32.ofInt 0), .int (Int32.ofInt 0), .int (Int32.ofInt 0), .int (Int32.ofInt 0), .int (Int32.ofInt 0), .ref q17, .ref q18, .ref q19, .ref q20])), (q17, aI cI 17 16), (q18, aI cI 18 4), (q19, aI cI 19 4), (q20, aI cI 20 4)] := hD
  refine lv_aload_n hx hb dX1_init_43 rfl (lv_at hl 0 rfl) ?_
  refine lv_aload_n hx hb dX1_init_44 rfl (lv_at hl 3 rfl) ?_
  refine va_putF (D := D) (ci := 1) (v := .ref r2) (ty := tyX1 2) (C := RX1) (T := TX1) (N := 13) hx hb hts inK1 tyX1 tyX1_ok nmX1 hown hK hP hD hS 0 rfl rfl 2 (by decide) (hts (.fieldLink RX1 31 "LaughsLast$Company" "leaving" "[I") (tc_1 77 rfl rfl)) (fun _ h9 => h9) rfl hin rfl (tyX1_ok 2 (by decide)) rfl rfl (Nat.le_of_ble_eq_true rfl) dX1_init_45 (fun H locs hP hD hS => ?_)
  have hP : va_P D classes [(h0, .inr (1, [.ref r0, .ref r1, .ref r2, .int (Int32.ofInt 0), .int (Int32.ofInt 0), .int (Int32.ofInt 0), .int (Int32.ofInt 0), .int (Int32.ofInt 0), .int (Int32.ofInt 0), .ref q17, .ref q18, .ref q19, .ref q20])), (q17, aI cI 17 16), (q18, aI cI 18 4), (q19, aI cI 19 4), (q20, aI cI 20 4)] H := hP
  have hD : va_D A [(h0, .inr (1, [.ref r0, .ref r1, .ref r2, .int (Int32.ofInt 0), .int (Int32.ofInt 0), .int (Int32.ofInt 0), .int (Int32.ofInt 0), .int (Int32.ofInt 0), .int (Int32.ofInt 0), .ref q17, .ref q18, .ref q19, .ref q20])), (q17, aI cI 17 16), (q18, aI cI 18 4), (q19, aI cI 19 4), (q20, aI cI 20 4)] := hD
  have hP : va_P D classes [(h0, .inr (1, [.ref r0, .ref r1, .ref r2, .int (Int32.ofInt 0), .int (Int32.ofInt 0), .int (Int32.ofInt 0), .int (Int32.ofInt 0), .int (Int32.ofInt 0), .int (Int32.ofInt 0), .ref q17, .ref q18, .ref q19, .ref q20])), (q17, aI cI 17 16), (q18, aI cI 18 4), (q19, aI cI 19 4), (q20, aI cI 20 4)] H := hP
  have hD : va_D A [(h0, .inr (1, [.ref r0, .ref r1, .ref r2, .int (Int32.ofInt 0), .int (Int32.ofInt 0), .int (Int32.ofInt 0), .int (Int32.ofInt 0), .int (Int32.ofInt 0), .int (Int32.ofInt 0), .ref q17, .ref q18, .ref q19, .ref q20])), (q17, aI cI 17 16), (q18, aI cI 18 4), (q19, aI cI 19 4), (q20, aI cI 20 4)] := hD
  refine W.widen (k := 4) (n := 28) (Nat.le_of_ble_eq_true rfl) (Nat.le_of_ble_eq_true rfl) ?_
  exact W.vret hx hb hr (fun t ht hW => ⟨⟨(fun k => if k = 17 then q17 else if k = 18 then q18 else if k = 19 then q19 else if k = 20 then q20 else 0), rfl, trivial, by rw [ht]; exact hP, hD⟩, hS.F ht⟩) hS.2.2 dX1_init_48
set_option maxHeartbeats 4000000 in
set_option maxRecDepth 100000 in
theorem n_X0_init (l : Launch) (D : va_G) (cI cL cZ : ClassId) (h0 : Nat) (sz : Nat) (r0 : Nat) : Met l yX0_init (.code yX0_init cX0_init 2 none :: tblG) ({ frames := 1, cells := 5, slots := 104, locals := 12 }) (va_Pc [.ref h0, .ref r0] (fun U => U.heap.size = sz ∧ va_P D classes [(h0, .inr (0, [.null, .null, .null, .null, .null, .long (Int64.ofInt 0), .null]))] U.heap ∧ va_K D classes [(cI, .int), (cL, .long), (cZ, .boolean)] U ∧ va_D (fun _ => True) [(h0, .inr (0, [.null, .null, .null, .null, .null, .long (Int64.ofInt 0), .null]))])) (va_Qv (fun _ : Nat → Nat => True) (fun u t => va_P D classes [(h0, .inr (0, [.ref r0, .ref (u 21), .ref (u 22), .ref (u 23), .ref (u 24), .long (Int64.ofInt 0), .ref (u 25)])), ((u 21), aL cL 21 16), ((u 22), aL cL 22 60), ((u 23), aL cL 23 20), ((u 24), aL cL 24 4), ((u 25), aL cL 25 4)] t.heap ∧ va_D (va_A [(h0, .inr (0, [.null, .null, .null, .null, .null, .long (Int64.ofInt 0), .null]))] sz) [(h0, .inr (0, [.ref r0, .ref (u 21), .ref (u 22), .ref (u 23), .ref (u 24), .long (Int64.ofInt 0), .ref (u 25)])), ((u 21), aL cL 21 16), ((u 22), aL cL 22 60), ((u 23), aL cL 23 20), ((u 24), aL cL 24 4), ((u 25), aL cL 25 4)]) (va_A [(h0, .inr (0, [.null, .null, .null, .null, .null, .long (Int64.ofInt 0), .null]))] sz)) 5 104 (va_A [(h0, .inr (0, [.null, .null, .null, .null, .null, .long (Int64.ofInt 0), .null]))] sz) := by
  refine Met.ofW (cc := cX0_init) (maxL := 2) (ret := none) (by decide) rfl ?_
  intro p e s m args below meth c s₁ B hml hv
  obtain ⟨rfl, hsz, hP, hK, hD0⟩ := hv
  have hx := B.exec
  have hb := B.bytes
  have hr := B.returns
  have hts0 := atoms_spec (ws := .code yX0_init cX0_init 2 none :: tblG) B.pre
  have hts : ∀ w ∈ tblG, w.before [.ref h0, .ref r0].toArray s = true := fun w hw => hts0 w (List.mem_cons_of_mem _ hw)
  have hown : s.vm.findClass RX0 = some m.cls := findClass_of_methodNamed B.named
  have hlocks := B.notSynchronized
  have hin : meth.name = "<init>" := (name_of_methodNamed B.named B.method).1
  subst hsz
  have hD := hD0.self (sz := s.heap.size)
  generalize hAe : va_A [(h0, .inr (0, [.null, .null, .null, .null, .null, .long (Int64.ofInt 0), .null]))] s.heap.size = A at hD ⊢
  have hA : ∀ q : Nat, s.heap.size ≤ q → A q := fun q h => by rw [← hAe]; exact Or.inr h
  have hS : va_S A s.heap s.heap [] := va_S.rf
  have hl := lv_entry ([.ref h0, .ref r0]) (n := 2) (Nat.le_of_ble_eq_true rfl)
  rw [lg_entry_eq]
  generalize (lg_sl ([.ref h0, .ref r0]) ++ List.replicate (2 - (lg_sl ([.ref h0, .ref r0])).length) Slot.unset).toArray = ls at hl ⊢
  have hl : lv_has ls 2 [(0, .ref h0), (1, .ref r0)] := hl
  refine lv_aload_n hx hb dX0_init_0 rfl (lv_at hl 0 rfl) ?_
  refine W.objInit hx hb hown (hts (.methodLink RX0 3 objectInit) (tc_1 144 rfl rfl)) (hts (.instanceMethod objectInit) (tc_1 20 rfl rfl)) (hts (.code objectInit ⟨#[0xb1]⟩ 1 none) (tc_1 21 rfl rfl)) rfl (by rw [hml]; exact hl.1) rfl dX0_init_1 (Nat.le_of_ble_eq_true rfl) (Nat.le_of_ble_eq_true rfl) ?_
  refine W.eq (g2 := F0 m 4 ls []) rfl ?_
  refine lv_aload_n hx hb dX0_init_4 rfl (lv_at hl 0 rfl) ?_
  refine lv_bipush (v := Int32.ofInt (16)) hx hb dX0_init_5 (by decide) ?_
  refine n_newa (a0 := (16, .inr (.inl (fun j => Int64.ofInt (μ0 21 j))))) (N' := 16) (n := Int32.ofInt (16)) (ty := .long) (cT := cL) (atype := .long) hx hb (hts (.arrayClass .long) (tc_1 169 rfl rfl)) rfl 1 rfl (fun _ _ => rfl) hK hP hD hS hA (cell_L (fun _ => rfl)) (by decide) (by decide) (by decide) (Nat.le_of_ble_eq_true rfl) (Nat.le_of_ble_eq_true rfl) dX0_init_7 (fun q21 H hP hD hS => ?_)
  have hP : va_P D classes [(h0, .inr (0, [.null, .null, .null, .null, .null, .long (Int64.ofInt 0), .null])), (q21, aL cL 21 16)] H := hP
  have hD : va_D A [(h0, .inr (0, [.null, .null, .null, .null, .null, .long (Int64.ofInt 0), .null])), (q21, aL cL 21 16)] := hD
  refine va_putF (D := D) (ci := 0) (v := .ref q21) (ty := tyX0 1) (C := RX0) (T := TX0) (N := 7) hx hb hts inK0 tyX0 tyX0_ok nmX0 hown hK hP hD hS 0 rfl rfl 1 (by decide) (hts (.fieldLink RX0 9 "LaughsLast$Chances" "sets" "[J") (tc_1 146 rfl rfl)) (fun _ h9 => h9) rfl hin rfl (tyX0_ok 1 (by decide)) rfl rfl (Nat.le_of_ble_eq_true rfl) dX0_init_9 (fun H locs hP hD hS => ?_)
  have hP : va_P D classes [(h0, .inr (0, [.null, .ref q21, .null, .null, .null, .long (Int64.ofInt 0), .null])), (q21, aL cL 21 16)] H := hP
  have hD : va_D A [(h0, .inr (0, [.null, .ref q21, .null, .null, .null, .long (Int64.ofInt 0), .null])), (q21, aL cL 21 16)] := hD
  refine lv_aload_n hx hb dX0_init_12 rfl (lv_at hl 0 rfl) ?_
  refine lv_bipush (v := Int32.ofInt (60)) hx hb dX0_init_13 (by decide) ?_
  refine n_newa (a0 := (60, .inr (.inl (fun j => Int64.ofInt (μ0 22 j))))) (N' := 60) (n := Int32.ofInt (60)) (ty := .long) (cT := cL) (atype := .long) hx hb (hts (.arrayClass .long) (tc_1 169 rfl rfl)) rfl 1 rfl (fun _ _ => rfl) hK hP hD hS hA (cell_L (fun _ => rfl)) (by decide) (by decide) (by decide) (Nat.le_of_ble_eq_true rfl) (Nat.le_of_ble_eq_true rfl) dX0_init_15 (fun q22 H hP hD hS => ?_)
  have hP : va_P D classes [(h0, .inr (0, [.null, .ref q21, .null, .null, .null, .long (Int64.ofInt 0), .null])), (q21, aL cL 21 16), (q22, aL cL 22 60)] H := hP
  have hD : va_D A [(h0, .inr (0, [.null, .ref q21, .null, .null, .null, .long (Int64.ofInt 0), .null])), (q21, aL cL 21 16), (q22, aL cL 22 60)] := hD
  refine va_putF (D := D) (ci := 0) (v := .ref q22) (ty := tyX0 2) (C := RX0) (T := TX0) (N := 7) hx hb hts inK0 tyX0 tyX0_ok nmX0 hown hK hP hD hS 0 rfl rfl 2 (by decide) (hts (.fieldLink RX0 15 "LaughsLast$Chances" "passes" "[J") (tc_1 147 rfl rfl)) (fun _ h9 => h9) rfl hin rfl (tyX0_ok 2 (by decide)) rfl rfl (Nat.le_of_ble_eq_true rfl) dX0_init_17 (fun H locs hP hD hS => ?_)
  have hP : va_P D classes [(h0, .inr (0, [.null, .ref q21, .ref q22, .null, .null, .long (Int64.ofInt 0), .null])), (q21, aL cL 21 16), (q22, aL cL 22 60)] H := hP
  have hD : va_D A [(h0, .inr (0, [.null, .ref q21, .ref q22, .null, .null, .long (Int64.ofInt 0), .null])), (q21, aL cL 21 16), (q22, aL cL 22 60)] := hD
  refine lv_aload_n hx hb dX0_init_20 rfl (lv_at hl 0 rfl) ?_
  refine lv_bipush (v := Int32.ofInt (20)) hx hb dX0_init_21 (by decide) ?_
  refine n_newa (a0 := (20, .inr (.inl (fun j => Int64.ofInt (μ0 23 j))))) (N' := 20) (n := Int32.ofInt (20)) (ty := .long) (cT := cL) (atype := .long) hx hb (hts (.arrayClass .long) (tc_1 169 rfl rfl)) rfl 1 rfl (fun _ _ => rfl) hK hP hD hS hA (cell_L (fun _ => rfl)) (by decide) (by decide) (by decide) (Nat.le_of_ble_eq_true rfl) (Nat.le_of_ble_eq_true rfl) dX0_init_23 (fun q23 H hP hD hS => ?_)
  have hP : va_P D classes [(h0, .inr (0, [.null, .ref q21, .ref q22, .null, .null, .long (Int64.ofInt 0), .null])), (q21, aL cL 21 16), (q22, aL cL 22 60), (q23, aL cL 23 20)] H := hP
  have hD : va_D A [(h0, .inr (0, [.null, .ref q21, .ref q22, .null, .null, .long (Int64.ofInt 0), .null])), (q21, aL cL 21 16), (q22, aL cL 22 60), (q23, aL cL 23 20)] := hD
  refine va_putF (D := D) (ci := 0) (v := .ref q23) (ty := tyX0 3) (C := RX0) (T := TX0) (N := 7) hx hb hts inK0 tyX0 tyX0_ok nmX0 hown hK hP hD hS 0 rfl rfl 3 (by decide) (hts (.fieldLink RX0 18 "LaughsLast$Chances" "owed" "[J") (tc_1 148 rfl rfl)) (fun _ h9 => h9) rfl hin rfl (tyX0_ok 3 (by decide)) rfl rfl (Nat.le_of_ble_eq_true rfl) dX0_init_25 (fun H locs hP hD hS => ?_)
  have hP : va_P D classes [(h0, .inr (0, [.null, .ref q21, .ref q22, .ref q23, .null, .long (Int64.ofInt 0), .null])), (q21, aL cL 21 16), (q22, aL cL 22 60), (q23, aL cL 23 20)] H := hP
  have hD : va_D A [(h0, .inr (0, [.null, .ref q21, .ref q22, .ref q23, .null, .long (Int64.ofInt 0), .null])), (q21, aL cL 21 16), (q22, aL cL 22 60), (q23, aL cL 23 20)] := hD
  refine lv_aload_n hx hb dX0_init_28 rfl (lv_at hl 0 rfl) ?_
  refine lv_iconst (v := Int32.ofInt (4)) hx hb dX0_init_29 rfl ?_
  refine n_newa (a0 := (4, .inr (.inl (fun j => Int64.ofInt (μ0 24 j))))) (N' := 4) (n := Int32.ofInt (4)) (ty := .long) (cT := cL) (atype := .long) hx hb (hts (.arrayClass .long) (tc_1 169 rfl rfl)) rfl 1 rfl (fun _ _ => rfl) hK hP hD hS hA (cell_L (fun _ => rfl)) (by decide) (by decide) (by decide) (Nat.le_of_ble_eq_true rfl) (Nat.le_of_ble_eq_true rfl) dX0_init_30 (fun q24 H hP hD hS => ?_)
  have hP : va_P D classes [(h0, .inr (0, [.null, .ref q21, .ref q22, .ref q23, .null, .long (Int64.ofInt 0), .null])), (q21, aL cL 21 16), (q22, aL cL 22 60), (q23, aL cL 23 20), (q24, aL cL 24 4)] H := hP
  have hD : va_D A [(h0, .inr (0, [.null, .ref q21, .ref q22, .ref q23, .null, .long (Int64.ofInt 0), .null])), (q21, aL cL 21 16), (q22, aL cL 22 60), (q23, aL cL 23 20), (q24, aL cL 24 4)] := hD
  refine va_putF (D := D) (ci := 0) (v := .ref q24) (ty := tyX0 4) (C := RX0) (T := TX0) (N := 7) hx hb hts inK0 tyX0 tyX0_ok nmX0 hown hK hP hD hS 0 rfl rfl 4 (by decide) (hts (.fieldLink RX0 21 "LaughsLast$Chances" "before" "[J") (tc_1 149 rfl rfl)) (fun _ h9 => h9) rfl hin rfl (tyX0_ok 4 (by decide)) rfl rfl (Nat.le_of_ble_eq_true rfl) dX0_init_32 (fun H locs hP hD hS => ?_)
  have hP : va_P D classes [(h0, .inr (0, [.null, .ref q21, .ref q22, .ref q23, .ref q24, .long (Int64.ofInt 0), .null])), (q21, aL cL 21 16), (q22, aL cL 22 60), (q23, aL cL 23 20), (q24, aL cL 24 4)] H := hP
  have hD : va_D A [(h0, .inr (0, [.null, .ref q21, .ref q22, .ref q23, .ref q24, .long (Int64.ofInt 0), .null])), (q21, aL cL 21 16), (q22, aL cL 22 60), (q23, aL cL 23 20), (q24, aL cL 24 4)] := hD
  refine lv_aload_n hx hb dX0_init_35 rfl (lv_at hl 0 rfl) ?_
  refine lv_iconst (v := Int32.ofInt (4)) hx hb dX0_init_36 rfl ?_
  refine n_newa (a0 := (4, .inr (.inl (fun j => Int64.ofInt (μ0 25 j))))) (N' := 4) (n := Int32.ofInt (4)) (ty := .long) (cT := cL) (atype := .long) hx hb (hts (.arrayClass .long) (tc_1 169 rfl rfl)) rfl 1 rfl (fun _ _ => rfl) hK hP hD hS hA (cell_L (fun _ => rfl)) (by decide) (by decide) (by decide) (Nat.le_of_ble_eq_true rfl) (Nat.le_of_ble_eq_true rfl) dX0_init_37 (fun q25 H hP hD hS => ?_)
  have hP : va_P D classes [(h0, .inr (0, [.null, .ref q21, .ref q22, .ref q23, .ref q24, .long (Int64.ofInt 0), .null])), (q21, aL cL 21 16), (q22, aL cL 22 60), (q23, aL cL 23 20), (q24, aL cL 24 4), (q25, aL cL 25 4)] H := hP
  have hD : va_D A [(h0, .inr (0, [.null, .ref q21, .ref q22, .ref q23, .ref q24, .long (Int64.ofInt 0), .null])), (q21, aL cL 21 16), (q22, aL cL 22 60), (q23, aL cL 23 20), (q24, aL cL 24 4), (q25, aL cL 25 4)] := hD
  refine va_putF (D := D) (ci := 0) (v := .ref q25) (ty := tyX0 6) (C := RX0) (T := TX0) (N := 7) hx hb hts inK0 tyX0 tyX0_ok nmX0 hown hK hP hD hS 0 rfl rfl 6 (by decide) (hts (.fieldLink RX0 24 "LaughsLast$Chances" "amounts" "[J") (tc_1 151 rfl rfl)) (fun _ h9 => h9) rfl hin rfl (tyX0_ok 6 (by decide)) rfl rfl (Nat.le_of_ble_eq_true rfl) dX0_init_39 (fun H locs hP hD hS => ?_)
  have hP : va_P D classes [(h0, .inr (0, [.null, .ref q21, .ref q22, .ref q23, .ref q24, .long (Int64.ofInt 0), .ref q25])), (q21, aL cL 21 16), (q22, aL cL 22 60), (q23, aL cL 23 20), (q24, aL cL 24 4), (q25, aL cL 25 4)] H := hP
  have hD : va_D A [(h0, .inr (0, [.null, .ref q21, .ref q22, .ref q23, .ref q24, .long (Int64.ofInt 0), .ref q25])), (q21, aL cL 21 16), (q22, aL cL 22 60), (q23, aL cL 23 20), (q24, aL cL 24 4), (q25, aL cL 25 4)] := hD
  refine lv_aload_n hx hb dX0_init_42 rfl (lv_at hl 0 rfl) ?_
  refine lv_aload_n hx hb dX0_init_43 rfl (lv_at hl 1 rfl) ?_
  refine va_putF (D := D) (ci := 0) (v := .ref r0) (ty := tyX0 0) (C := RX0) (T := TX0) (N := 7) hx hb hts inK0 tyX0 tyX0_ok nmX0 hown hK hP hD hS 0 rfl rfl 0 (by decide) (hts (.fieldLink RX0 27 "LaughsLast$Chances" "company" "LLaughsLast$Company;") (tc_1 145 rfl rfl)) (fun _ h9 => h9) rfl hin rfl (tyX0_ok 0 (by decide)) rfl rfl (Nat.le_of_ble_eq_true rfl) dX0_init_44 (fun H locs hP hD hS => ?_)
  have hP : va_P D classes [(h0, .inr (0, [.ref r0, .ref q21, .ref q22, .ref q23, .ref q24, .long (Int64.ofInt 0), .ref q25])), (q21, aL cL 21 16), (q22, aL cL 22 60), (q23, aL cL 23 20), (q24, aL cL 24 4), (q25, aL cL 25 4)] H := hP
  have hD : va_D A [(h0, .inr (0, [.ref r0, .ref q21, .ref q22, .ref q23, .ref q24, .long (Int64.ofInt 0), .ref q25])), (q21, aL cL 21 16), (q22, aL cL 22 60), (q23, aL cL 23 20), (q24, aL cL 24 4), (q25, aL cL 25 4)] := hD
  have hP : va_P D classes [(h0, .inr (0, [.ref r0, .ref q21, .ref q22, .ref q23, .ref q24, .long (Int64.ofInt 0), .ref q25])), (q21, aL cL 21 16), (q22, aL cL 22 60), (q23, aL cL 23 20), (q24, aL cL 24 4), (q25, aL cL 25 4)] H := hP
  have hD : va_D A [(h0, .inr (0, [.ref r0, .ref q21, .ref q22, .ref q23, .ref q24, .long (Int64.ofInt 0), .ref q25])), (q21, aL cL 21 16), (q22, aL cL 22 60), (q23, aL cL 23 20), (q24, aL cL 24 4), (q25, aL cL 25 4)] := hD
  refine W.widen (k := 5) (n := 104) (Nat.le_of_ble_eq_true rfl) (Nat.le_of_ble_eq_true rfl) ?_
  exact W.vret hx hb hr (fun t ht hW => ⟨⟨(fun k => if k = 21 then q21 else if k = 22 then q22 else if k = 23 then q23 else if k = 24 then q24 else if k = 25 then q25 else 0), rfl, trivial, by rw [ht]; exact hP, hD⟩, hS.F ht⟩) hS.2.2 dX0_init_47
set_option maxHeartbeats 4000000 in
set_option maxRecDepth 100000 in
theorem n_X4_init (l : Launch) (D : va_G) (cI cL cZ : ClassId) (h0 : Nat) (sz : Nat) (r0 : Nat) (r1 : Nat) : Met l yX4_init (.code yX4_init cX4_init 3 none :: tblG) ({ frames := 1, cells := 5, slots := 20, locals := 12 }) (va_Pc [.ref h0, .ref r0, .ref r1] (fun U => U.heap.size = sz ∧ va_P D classes [(h0, .inr (4, [.null, .null, .long (Int64.ofInt 0), .int (Int32.ofInt 0), .int (Int32.ofInt 0), .int (Int32.ofInt 0), .null, .null, .null, .null, .null]))] U.heap ∧ va_K D classes [(cI, .int), (cL, .long), (cZ, .boolean)] U ∧ va_D (fun _ => True) [(h0, .inr (4, [.null, .null, .long (Int64.ofInt 0), .int (Int32.ofInt 0), .int (Int32.ofInt 0), .int (Int32.ofInt 0), .null, .null, .null, .null, .null]))])) (va_Qv (fun _ : Nat → Nat => True) (fun u t => va_P D classes [(h0, .inr (4, [.ref r0, .ref r1, .long (Int64.ofInt 0), .int (Int32.ofInt 0), .int (Int32.ofInt 0), .int (Int32.ofInt 0), .ref (u 26), .ref (u 27), .ref (u 28), .ref (u 29), .ref (u 30)])), ((u 26), aI cI 26 4), ((u 27), aI cI 27 4), ((u 28), aI cI 28 4), ((u 29), aI cI 29 4), ((u 30), aI cI 30 4)] t.heap ∧ va_D (va_A [(h0, .inr (4, [.null, .null, .long (Int64.ofInt 0), .int (Int32.ofInt 0), .int (Int32.ofInt 0), .int (Int32.ofInt 0), .null, .null, .null, .null, .null]))] sz) [(h0, .inr (4, [.ref r0, .ref r1, .long (Int64.ofInt 0), .int (Int32.ofInt 0), .int (Int32.ofInt 0), .int (Int32.ofInt 0), .ref (u 26), .ref (u 27), .ref (u 28), .ref (u 29), .ref (u 30)])), ((u 26), aI cI 26 4), ((u 27), aI cI 27 4), ((u 28), aI cI 28 4), ((u 29), aI cI 29 4), ((u 30), aI cI 30 4)]) (va_A [(h0, .inr (4, [.null, .null, .long (Int64.ofInt 0), .int (Int32.ofInt 0), .int (Int32.ofInt 0), .int (Int32.ofInt 0), .null, .null, .null, .null, .null]))] sz)) 5 20 (va_A [(h0, .inr (4, [.null, .null, .long (Int64.ofInt 0), .int (Int32.ofInt 0), .int (Int32.ofInt 0), .int (Int32.ofInt 0), .null, .null, .null, .null, .null]))] sz) := by
  refine Met.ofW (cc := cX4_init) (maxL := 3) (ret := none) (by decide) rfl ?_
  intro p e s m args below meth c s₁ B hml hv
  obtain ⟨rfl, hsz, hP, hK, hD0⟩ := hv
  have hx := B.exec
  have hb := B.bytes
  have hr := B.returns
  have hts0 := atoms_spec (ws := .code yX4_init cX4_init 3 none :: tblG) B.pre
  have hts : ∀ w ∈ tblG, w.before [.ref h0, .ref r0, .ref r1].toArray s = true := fun w hw => hts0 w (List.mem_cons_of_mem _ hw)
  have hown : s.vm.findClass RX4 = some m.cls := findClass_of_methodNamed B.named
  have hlocks := B.notSynchronized
  have hin : meth.name = "<init>" := (name_of_methodNamed B.named B.method).1
  subst hsz
  have hD := hD0.self (sz := s.heap.size)
  generalize hAe : va_A [(h0, .inr (4, [.null, .null, .long (Int64.ofInt 0), .int (Int32.ofInt 0), .int (Int32.ofInt 0), .int (Int32.ofInt 0), .null, .null, .null, .null, .null]))] s.heap.size = A at hD ⊢
  have hA : ∀ q : Nat, s.heap.size ≤ q → A q := fun q h => by rw [← hAe]; exact Or.inr h
  have hS : va_S A s.heap s.heap [] := va_S.rf
  have hl := lv_entry ([.ref h0, .ref r0, .ref r1]) (n := 3) (Nat.le_of_ble_eq_true rfl)
  rw [lg_entry_eq]
  generalize (lg_sl ([.ref h0, .ref r0, .ref r1]) ++ List.replicate (3 - (lg_sl ([.ref h0, .ref r0, .ref r1])).length) Slot.unset).toArray = ls at hl ⊢
  have hl : lv_has ls 3 [(0, .ref h0), (1, .ref r0), (2, .ref r1)] := hl
  refine lv_aload_n hx hb dX4_init_0 rfl (lv_at hl 0 rfl) ?_
  refine W.objInit hx hb hown (hts (.methodLink RX4 3 objectInit) (tc_1 175 rfl rfl)) (hts (.instanceMethod objectInit) (tc_1 20 rfl rfl)) (hts (.code objectInit ⟨#[0xb1]⟩ 1 none) (tc_1 21 rfl rfl)) rfl (by rw [hml]; exact hl.1) rfl dX4_init_1 (Nat.le_of_ble_eq_true rfl) (Nat.le_of_ble_eq_true rfl) ?_
  refine W.eq (g2 := F0 m 4 ls []) rfl ?_
  refine lv_aload_n hx hb dX4_init_4 rfl (lv_at hl 0 rfl) ?_
  refine lv_iconst (v := Int32.ofInt (4)) hx hb dX4_init_5 rfl ?_
  refine n_newa (a0 := (4, .inl (fun j => Int32.ofInt (μ0 26 j)))) (N' := 4) (n := Int32.ofInt (4)) (ty := .int) (cT := cI) (atype := .int) hx hb (hts (.arrayClass .int) (tc_1 68 rfl rfl)) rfl 0 rfl (fun _ _ => rfl) hK hP hD hS hA (cell_I (fun _ => rfl)) (by decide) (by decide) (by decide) (Nat.le_of_ble_eq_true rfl) (Nat.le_of_ble_eq_true rfl) dX4_init_6 (fun q26 H hP hD hS => ?_)
  have hP : va_P D classes [(h0, .inr (4, [.null, .null, .long (Int64.ofInt 0), .int (Int32.ofInt 0), .int (Int32.ofInt 0), .int (Int32.ofInt 0), .null, .null, .null, .null, .null])), (q26, aI cI 26 4)] H := hP
  have hD : va_D A [(h0, .inr (4, [.null, .null, .long (Int64.ofInt 0), .int (Int32.ofInt 0), .int (Int32.ofInt 0), .int (Int32.ofInt 0), .null, .null, .null, .null, .null])), (q26, aI cI 26 4)] := hD
  refine va_putF (D := D) (ci := 4) (v := .ref q26) (ty := tyX4 6) (C := RX4) (T := TX4) (N := 11) hx hb hts inK4 tyX4 tyX4_ok nmX4 hown hK hP hD hS 0 rfl rfl 6 (by decide) (hts (.fieldLink RX4 9 "LaughsLast$Search" "restHolds" "[I") (tc_1 186 rfl rfl)) (fun _ h9 => h9) rfl hin rfl (tyX4_ok 6 (by decide)) rfl rfl (Nat.le_of_ble_eq_true rfl) dX4_init_8 (fun H locs hP hD hS => ?_)
  have hP : va_P D classes [(h0, .inr (4, [.null, .null, .long (Int64.ofInt 0), .int (Int32.ofInt 0), .int (Int32.ofInt 0), .int (Int32.ofInt 0), .ref q26, .null, .null, .null, .null])), (q26, aI cI 26 4)] H := hP
  have hD : va_D A [(h0, .inr (4, [.null, .null, .long (Int64.ofInt 0), .int (Int32.ofInt 0), .int (Int32.ofInt 0), .int (Int32.ofInt 0), .ref q26, .null, .null, .null, .null])), (q26, aI cI 26 4)] := hD
  refine lv_aload_n hx hb dX4_init_11 rfl (lv_at hl 0 rfl) ?_
  refine lv_iconst (v := Int32.ofInt (4)) hx hb dX4_init_12 rfl ?_
  refine n_newa (a0 := (4, .inl (fun j => Int32.ofInt (μ0 27 j)))) (N' := 4) (n := Int32.ofInt (4)) (ty := .int) (cT := cI) (atype := .int) hx hb (hts (.arrayClass .int) (tc_1 68 rfl rfl)) rfl 0 rfl (fun _ _ => rfl) hK hP hD hS hA (cell_I (fun _ => rfl)) (by decide) (by decide) (by decide) (Nat.le_of_ble_eq_true rfl) (Nat.le_of_ble_eq_true rfl) dX4_init_13 (fun q27 H hP hD hS => ?_)
  have hP : va_P D classes [(h0, .inr (4, [.null, .null, .long (Int64.ofInt 0), .int (Int32.ofInt 0), .int (Int32.ofInt 0), .int (Int32.ofInt 0), .ref q26, .null, .null, .null, .null])), (q26, aI cI 26 4), (q27, aI cI 27 4)] H := hP
  have hD : va_D A [(h0, .inr (4, [.null, .null, .long (Int64.ofInt 0), .int (Int32.ofInt 0), .int (Int32.ofInt 0), .int (Int32.ofInt 0), .ref q26, .null, .null, .null, .null])), (q26, aI cI 26 4), (q27, aI cI 27 4)] := hD
  refine va_putF (D := D) (ci := 4) (v := .ref q27) (ty := tyX4 7) (C := RX4) (T := TX4) (N := 11) hx hb hts inK4 tyX4 tyX4_ok nmX4 hown hK hP hD hS 0 rfl rfl 7 (by decide) (hts (.fieldLink RX4 15 "LaughsLast$Search" "restLeaves" "[I") (tc_1 188 rfl rfl)) (fun _ h9 => h9) rfl hin rfl (tyX4_ok 7 (by decide)) rfl rfl (Nat.le_of_ble_eq_true rfl) dX4_init_15 (fun H locs hP hD hS => ?_)
  have hP : va_P D classes [(h0, .inr (4, [.null, .null, .long (Int64.ofInt 0), .int (Int32.ofInt 0), .int (Int32.ofInt 0), .int (Int32.ofInt 0), .ref q26, .ref q27, .null, .null, .null])), (q26, aI cI 26 4), (q27, aI cI 27 4)] H := hP
  have hD : va_D A [(h0, .inr (4, [.null, .null, .long (Int64.ofInt 0), .int (Int32.ofInt 0), .int (Int32.ofInt 0), .int (Int32.ofInt 0), .ref q26, .ref q27, .null, .null, .null])), (q26, aI cI 26 4), (q27, aI cI 27 4)] := hD
  refine lv_aload_n hx hb dX4_init_18 rfl (lv_at hl 0 rfl) ?_
  refine lv_iconst (v := Int32.ofInt (4)) hx hb dX4_init_19 rfl ?_
  refine n_newa (a0 := (4, .inl (fun j => Int32.ofInt (μ0 28 j)))) (N' := 4) (n := Int32.ofInt (4)) (ty := .int) (cT := cI) (atype := .int) hx hb (hts (.arrayClass .int) (tc_1 68 rfl rfl)) rfl 0 rfl (fun _ _ => rfl) hK hP hD hS hA (cell_I (fun _ => rfl)) (by decide) (by decide) (by decide) (Nat.le_of_ble_eq_true rfl) (Nat.le_of_ble_eq_true rfl) dX4_init_20 (fun q28 H hP hD hS => ?_)
  have hP : va_P D classes [(h0, .inr (4, [.null, .null, .long (Int64.ofInt 0), .int (Int32.ofInt 0), .int (Int32.ofInt 0), .int (Int32.ofInt 0), .ref q26, .ref q27, .null, .null, .null])), (q26, aI cI 26 4), (q27, aI cI 27 4), (q28, aI cI 28 4)] H := hP
  have hD : va_D A [(h0, .inr (4, [.null, .null, .long (Int64.ofInt 0), .int (Int32.ofInt 0), .int (Int32.ofInt 0), .int (Int32.ofInt 0), .ref q26, .ref q27, .null, .null, .null])), (q26, aI cI 26 4), (q27, aI cI 27 4), (q28, aI cI 28 4)] := hD
  refine va_putF (D := D) (ci := 4) (v := .ref q28) (ty := tyX4 8) (C := RX4) (T := TX4) (N := 11) hx hb hts inK4 tyX4 tyX4_ok nmX4 hown hK hP hD hS 0 rfl rfl 8 (by decide) (hts (.fieldLink RX4 18 "LaughsLast$Search" "bestRow" "[I") (tc_1 190 rfl rfl)) (fun _ h9 => h9) rfl hin rfl (tyX4_ok 8 (by decide)) rfl rfl (Nat.le_of_ble_eq_true rfl) dX4_init_22 (fun H locs hP hD hS => ?_)
  have hP : va_P D classes [(h0, .inr (4, [.null, .null, .long (Int64.ofInt 0), .int (Int32.ofInt 0), .int (Int32.ofInt 0), .int (Int32.ofInt 0), .ref q26, .ref q27, .ref q28, .null, .null])), (q26, aI cI 26 4), (q27, aI cI 27 4), (q28, aI cI 28 4)] H := hP
  have hD : va_D A [(h0, .inr (4, [.null, .null, .long (Int64.ofInt 0), .int (Int32.ofInt 0), .int (Int32.ofInt 0), .int (Int32.ofInt 0), .ref q26, .ref q27, .ref q28, .null, .null])), (q26, aI cI 26 4), (q27, aI cI 27 4), (q28, aI cI 28 4)] := hD
  refine lv_aload_n hx hb dX4_init_25 rfl (lv_at hl 0 rfl) ?_
  refine lv_iconst (v := Int32.ofInt (4)) hx hb dX4_init_26 rfl ?_
  refine n_newa (a0 := (4, .inl (fun j => Int32.ofInt (μ0 29 j)))) (N' := 4) (n := Int32.ofInt (4)) (ty := .int) (cT := cI) (atype := .int) hx hb (hts (.arrayClass .int) (tc_1 68 rfl rfl)) rfl 0 rfl (fun _ _ => rfl) hK hP hD hS hA (cell_I (fun _ => rfl)) (by decide) (by decide) (by decide) (Nat.le_of_ble_eq_true rfl) (Nat.le_of_ble_eq_true rfl) dX4_init_27 (fun q29 H hP hD hS => ?_)
  have hP : va_P D classes [(h0, .inr (4, [.null, .null, .long (Int64.ofInt 0), .int (Int32.ofInt 0), .int (Int32.ofInt 0), .int (Int32.ofInt 0), .ref q26, .ref q27, .ref q28, .null, .null])), (q26, aI cI 26 4), (q27, aI cI 27 4), (q28, aI cI 28 4), (q29, aI cI 29 4)] H := hP
  have hD : va_D A [(h0, .inr (4, [.null, .null, .long (Int64.ofInt 0), .int (Int32.ofInt 0), .int (Int32.ofInt 0), .int (Int32.ofInt 0), .ref q26, .ref q27, .ref q28, .null, .null])), (q26, aI cI 26 4), (q27, aI cI 27 4), (q28, aI cI 28 4), (q29, aI cI 29 4)] := hD
  refine va_putF (D := D) (ci := 4) (v := .ref q29) (ty := tyX4 9) (C := RX4) (T := TX4) (N := 11) hx hb hts inK4 tyX4 tyX4_ok nmX4 hown hK hP hD hS 0 rfl rfl 9 (by decide) (hts (.fieldLink RX4 21 "LaughsLast$Search" "row" "[I") (tc_1 192 rfl rfl)) (fun _ h9 => h9) rfl hin rfl (tyX4_ok 9 (by decide)) rfl rfl (Nat.le_of_ble_eq_true rfl) dX4_init_29 (fun H locs hP hD hS => ?_)
  have hP : va_P D classes [(h0, .inr (4, [.null, .null, .long (Int64.ofInt 0), .int (Int32.ofInt 0), .int (Int32.ofInt 0), .int (Int32.ofInt 0), .ref q26, .ref q27, .ref q28, .ref q29, .null])), (q26, aI cI 26 4), (q27, aI cI 27 4), (q28, aI cI 28 4), (q29, aI cI 29 4)] H := hP
  have hD : va_D A [(h0, .inr (4, [.null, .null, .long (Int64.ofInt 0), .int (Int32.ofInt 0), .int (Int32.ofInt 0), .int (Int32.ofInt 0), .ref q26, .ref q27, .ref q28, .ref q29, .null])), (q26, aI cI 26 4), (q27, aI cI 27 4), (q28, aI cI 28 4), (q29, aI cI 29 4)] := hD
  refine lv_aload_n hx hb dX4_init_32 rfl (lv_at hl 0 rfl) ?_
  refine lv_iconst (v := Int32.ofInt (4)) hx hb dX4_init_33 rfl ?_
  refine n_newa (a0 := (4, .inl (fun j => Int32.ofInt (μ0 30 j)))) (N' := 4) (n := Int32.ofInt (4)) (ty := .int) (cT := cI) (atype := .int) hx hb (hts (.arrayClass .int) (tc_1 68 rfl rfl)) rfl 0 rfl (fun _ _ => rfl) hK hP hD hS hA (cell_I (fun _ => rfl)) (by decide) (by decide) (by decide) (Nat.le_of_ble_eq_true rfl) (Nat.le_of_ble_eq_true rfl) dX4_init_34 (fun q30 H hP hD hS => ?_)
  have hP : va_P D classes [(h0, .inr (4, [.null, .null, .long (Int64.ofInt 0), .int (Int32.ofInt 0), .int (Int32.ofInt 0), .int (Int32.ofInt 0), .ref q26, .ref q27, .ref q28, .ref q29, .null])), (q26, aI cI 26 4), (q27, aI cI 27 4), (q28, aI cI 28 4), (q29, aI cI 29 4), (q30, aI cI 30 4)] H := hP
  have hD : va_D A [(h0, .inr (4, [.null, .null, .long (Int64.ofInt 0), .int (Int32.ofInt 0), .int (Int32.ofInt 0), .int (Int32.ofInt 0), .ref q26, .ref q27, .ref q28, .ref q29, .null])), (q26, aI cI 26 4), (q27, aI cI 27 4), (q28, aI cI 28 4), (q29, aI cI 29 4), (q30, aI cI 30 4)] := hD
  refine va_putF (D := D) (ci := 4) (v := .ref q30) (ty := tyX4 10) (C := RX4) (T := TX4) (N := 11) hx hb hts inK4 tyX4 tyX4_ok nmX4 hown hK hP hD hS 0 rfl rfl 10 (by decide) (hts (.fieldLink RX4 24 "LaughsLast$Search" "funnyNow" "[I") (tc_1 193 rfl rfl)) (fun _ h9 => h9) rfl hin rfl (tyX4_ok 10 (by decide)) rfl rfl (Nat.le_of_ble_eq_true rfl) dX4_init_36 (fun H locs hP hD hS => ?_)
  have hP : va_P D classes [(h0, .inr (4, [.null, .null, .long (Int64.ofInt 0), .int (Int32.ofInt 0), .int (Int32.ofInt 0), .int (Int32.ofInt 0), .ref q26, .ref q27, .ref q28, .ref q29, .ref q30])), (q26, aI cI 26 4), (q27, aI cI 27 4), (q28, aI cI 28 4), (q29, aI cI 29 4), (q30, aI cI 30 4)] H := hP
  have hD : va_D A [(h0, .inr (4, [.null, .null, .long (Int64.ofInt 0), .int (Int32.ofInt 0), .int (Int32.ofInt 0), .int (Int32.ofInt 0), .ref q26, .ref q27, .ref q28, .ref q29, .ref q30])), (q26, aI cI 26 4), (q27, aI cI 27 4), (q28, aI cI 28 4), (q29, aI cI 29 4), (q30, aI cI 30 4)] := hD
  refine lv_aload_n hx hb dX4_init_39 rfl (lv_at hl 0 rfl) ?_
  refine lv_aload_n hx hb dX4_init_40 rfl (lv_at hl 1 rfl) ?_
  refine va_putF (D := D) (ci := 4) (v := .ref r0) (ty := tyX4 0) (C := RX4) (T := TX4) (N := 11) hx hb hts inK4 tyX4 tyX4_ok nmX4 hown hK hP hD hS 0 rfl rfl 0 (by decide) (hts (.fieldLink RX4 27 "LaughsLast$Search" "company" "LLaughsLast$Company;") (tc_1 176 rfl rfl)) (fun _ h9 => h9) rfl hin rfl (tyX4_ok 0 (by decide)) rfl rfl (Nat.le_of_ble_eq_true rfl) dX4_init_41 (fun H locs hP hD hS => ?_)
  have hP : va_P D classes [(h0, .inr (4, [.ref r0, .null, .long (Int64.ofInt 0), .int (Int32.ofInt 0), .int (Int32.ofInt 0), .int (Int32.ofInt 0), .ref q26, .ref q27, .ref q28, .ref q29, .ref q30])), (q26, aI cI 26 4), (q27, aI cI 27 4), (q28, aI cI 28 4), (q29, aI cI 29 4), (q30, aI cI 30 4)] H := hP
  have hD : va_D A [(h0, .inr (4, [.ref r0, .null, .long (Int64.ofInt 0), .int (Int32.ofInt 0), .int (Int32.ofInt 0), .int (Int32.ofInt 0), .ref q26, .ref q27, .ref q28, .ref q29, .ref q30])), (q26, aI cI 26 4), (q27, aI cI 27 4), (q28, aI cI 28 4), (q29, aI cI 29 4), (q30, aI cI 30 4)] := hD
  refine lv_aload_n hx hb dX4_init_44 rfl (lv_at hl 0 rfl) ?_
  refine lv_aload_n hx hb dX4_init_45 rfl (lv_at hl 2 rfl) ?_
  refine va_putF (D := D) (ci := 4) (v := .ref r1) (ty := tyX4 1) (C := RX4) (T := TX4) (N := 11) hx hb hts inK4 tyX4 tyX4_ok nmX4 hown hK hP hD hS 0 rfl rfl 1 (by decide) (hts (.fieldLink RX4 31 "LaughsLast$Search" "chances" "LLaughsLast$Chances;") (tc_1 177 rfl rfl)) (fun _ h9 => h9) rfl hin rfl (tyX4_ok 1 (by decide)) rfl rfl (Nat.le_of_ble_eq_true rfl) dX4_init_46 (fun H locs hP hD hS => ?_)
  have hP : va_P D classes [(h0, .inr (4, [.ref r0, .ref r1, .long (Int64.ofInt 0), .int (Int32.ofInt 0), .int (Int32.ofInt 0), .int (Int32.ofInt 0), .ref q26, .ref q27, .ref q28, .ref q29, .ref q30])), (q26, aI cI 26 4), (q27, aI cI 27 4), (q28, aI cI 28 4), (q29, aI cI 29 4), (q30, aI cI 30 4)] H := hP
  have hD : va_D A [(h0, .inr (4, [.ref r0, .ref r1, .long (Int64.ofInt 0), .int (Int32.ofInt 0), .int (Int32.ofInt 0), .int (Int32.ofInt 0), .ref q26, .ref q27, .ref q28, .ref q29, .ref q30])), (q26, aI cI 26 4), (q27, aI cI 27 4), (q28, aI cI 28 4), (q29, aI cI 29 4), (q30, aI cI 30 4)] := hD
  have hP : va_P D classes [(h0, .inr (4, [.ref r0, .ref r1, .long (Int64.ofInt 0), .int (Int32.ofInt 0), .int (Int32.ofInt 0), .int (Int32.ofInt 0), .ref q26, .ref q27, .ref q28, .ref q29, .ref q30])), (q26, aI cI 26 4), (q27, aI cI 27 4), (q28, aI cI 28 4), (q29, aI cI 29 4), (q30, aI cI 30 4)] H := hP
  have hD : va_D A [(h0, .inr (4, [.ref r0, .ref r1, .long (Int64.ofInt 0), .int (Int32.ofInt 0), .int (Int32.ofInt 0), .int (Int32.ofInt 0), .ref q26, .ref q27, .ref q28, .ref q29, .ref q30])), (q26, aI cI 26 4), (q27, aI cI 27 4), (q28, aI cI 28 4), (q29, aI cI 29 4), (q30, aI cI 30 4)] := hD
  refine W.widen (k := 5) (n := 20) (Nat.le_of_ble_eq_true rfl) (Nat.le_of_ble_eq_true rfl) ?_
  exact W.vret hx hb hr (fun t ht hW => ⟨⟨(fun k => if k = 26 then q26 else if k = 27 then q27 else if k = 28 then q28 else if k = 29 then q29 else if k = 30 then q30 else 0), rfl, trivial, by rw [ht]; exact hP, hD⟩, hS.F ht⟩) hS.2.2 dX4_init_49
set_option maxHeartbeats 4000000 in
set_option maxRecDepth 100000 in
theorem n_X5_init (l : Launch) (D : va_G) (cI cL cZ : ClassId) (h0 : Nat) (sz : Nat) : Met l yX5_init (.code yX5_init cX5_init 1 none :: tblG) ({ frames := 1, cells := 5, slots := 300, locals := 12 }) (va_Pc [.ref h0] (fun U => U.heap.size = sz ∧ va_P D classes [(h0, .inr (5, [.int (Int32.ofInt 0), .null, .null, .null, .null, .null]))] U.heap ∧ va_K D classes [(cI, .int), (cL, .long), (cZ, .boolean)] U ∧ va_D (fun _ => True) [(h0, .inr (5, [.int (Int32.ofInt 0), .null, .null, .null, .null, .null]))])) (va_Qv (fun _ : Nat → Nat => True) (fun u t => va_P D classes [(h0, .inr (5, [.int (Int32.ofInt 0), .ref (u 31), .ref (u 32), .ref (u 33), .ref (u 34), .ref (u 35)])), ((u 31), aI cI 31 60), ((u 32), aI cI 32 60), ((u 33), aI cI 33 60), ((u 34), aI cI 34 60), ((u 35), aI cI 35 60)] t.heap ∧ va_D (va_A [(h0, .inr (5, [.int (Int32.ofInt 0), .null, .null, .null, .null, .null]))] sz) [(h0, .inr (5, [.int (Int32.ofInt 0), .ref (u 31), .ref (u 32), .ref (u 33), .ref (u 34), .ref (u 35)])), ((u 31), aI cI 31 60), ((u 32), aI cI 32 60), ((u 33), aI cI 33 60), ((u 34), aI cI 34 60), ((u 35), aI cI 35 60)]) (va_A [(h0, .inr (5, [.int (Int32.ofInt 0), .null, .null, .null, .null, .null]))] sz)) 5 300 (va_A [(h0, .inr (5, [.int (Int32.ofInt 0), .null, .null, .null, .null, .null]))] sz) := by
  refine Met.ofW (cc := cX5_init) (maxL := 1) (ret := none) (by decide) rfl ?_
  intro p e s m args below meth c s₁ B hml hv
  obtain ⟨rfl, hsz, hP, hK, hD0⟩ := hv
  have hx := B.exec
  have hb := B.bytes
  have hr := B.returns
  have hts0 := atoms_spec (ws := .code yX5_init cX5_init 1 none :: tblG) B.pre
  have hts : ∀ w ∈ tblG, w.before [.ref h0].toArray s = true := fun w hw => hts0 w (List.mem_cons_of_mem _ hw)
  have hown : s.vm.findClass RX5 = some m.cls := findClass_of_methodNamed B.named
  have hlocks := B.notSynchronized
  have hin : meth.name = "<init>" := (name_of_methodNamed B.named B.method).1
  subst hsz
  have hD := hD0.self (sz := s.heap.size)
  generalize hAe : va_A [(h0, .inr (5, [.int (Int32.ofInt 0), .null, .null, .null, .null, .null]))] s.heap.size = A at hD ⊢
  have hA : ∀ q : Nat, s.heap.size ≤ q → A q := fun q h => by rw [← hAe]; exact Or.inr h
  have hS : va_S A s.heap s.heap [] := va_S.rf
  have hl := lv_entry ([.ref h0]) (n := 1) (Nat.le_of_ble_eq_true rfl)
  rw [lg_entry_eq]
  generalize (lg_sl ([.ref h0]) ++ List.replicate (1 - (lg_sl ([.ref h0])).length) Slot.unset).toArray = ls at hl ⊢
  have hl : lv_has ls 1 [(0, .ref h0)] := hl
  refine lv_aload_n hx hb dX5_init_0 rfl (lv_at hl 0 rfl) ?_
  refine W.objInit hx hb hown (hts (.methodLink RX5 3 objectInit) (tc_2 6 rfl rfl)) (hts (.instanceMethod objectInit) (tc_1 20 rfl rfl)) (hts (.code objectInit ⟨#[0xb1]⟩ 1 none) (tc_1 21 rfl rfl)) rfl (by rw [hml]; exact hl.1) rfl dX5_init_1 (Nat.le_of_ble_eq_true rfl) (Nat.le_of_ble_eq_true rfl) ?_
  refine W.eq (g2 := F0 m 4 ls []) rfl ?_
  refine lv_aload_n hx hb dX5_init_4 rfl (lv_at hl 0 rfl) ?_
  refine lv_bipush (v := Int32.ofInt (60)) hx hb dX5_init_5 (by decide) ?_
  refine n_newa (a0 := (60, .inl (fun j => Int32.ofInt (μ0 31 j)))) (N' := 60) (n := Int32.ofInt (60)) (ty := .int) (cT := cI) (atype := .int) hx hb (hts (.arrayClass .int) (tc_1 68 rfl rfl)) rfl 0 rfl (fun _ _ => rfl) hK hP hD hS hA (cell_I (fun _ => rfl)) (by decide) (by decide) (by decide) (Nat.le_of_ble_eq_true rfl) (Nat.le_of_ble_eq_true rfl) dX5_init_7 (fun q31 H hP hD hS => ?_)
  have hP : va_P D classes [(h0, .inr (5, [.int (Int32.ofInt 0), .null, .null, .null, .null, .null])), (q31, aI cI 31 60)] H := hP
  have hD : va_D A [(h0, .inr (5, [.int (Int32.ofInt 0), .null, .null, .null, .null, .null])), (q31, aI cI 31 60)] := hD
  refine va_putF (D := D) (ci := 5) (v := .ref q31) (ty := tyX5 1) (C := RX5) (T := TX5) (N := 6) hx hb hts inK5 tyX5 tyX5_ok nmX5 hown hK hP hD hS 0 rfl rfl 1 (by decide) (hts (.fieldLink RX5 9 "LaughsLast$Seen" "who" "[I") (tc_2 9 rfl rfl)) (fun _ h9 => h9) rfl hin rfl (tyX5_ok 1 (by decide)) rfl rfl (Nat.le_of_ble_eq_true rfl) dX5_init_9 (fun H locs hP hD hS => ?_)
  have hP : va_P D classes [(h0, .inr (5, [.int (Int32.ofInt 0), .ref q31, .null, .null, .null, .null])), (q31, aI cI 31 60)] H := hP
  have hD : va_D A [(h0, .inr (5, [.int (Int32.ofInt 0), .ref q31, .null, .null, .null, .null])), (q31, aI cI 31 60)] := hD
  refine lv_aload_n hx hb dX5_init_12 rfl (lv_at hl 0 rfl) ?_
  refine lv_bipush (v := Int32.ofInt (60)) hx hb dX5_init_13 (by decide) ?_
  refine n_newa (a0 := (60, .inl (fun j => Int32.ofInt (μ0 32 j)))) (N' := 60) (n := Int32.ofInt (60)) (ty := .int) (cT := cI) (atype := .int) hx hb (hts (.arrayClass .int) (tc_1 68 rfl rfl)) rfl 0 rfl (fun _ _ => rfl) hK hP hD hS hA (cell_I (fun _ => rfl)) (by decide) (by decide) (by decide) (Nat.le_of_ble_eq_true rfl) (Nat.le_of_ble_eq_true rfl) dX5_init_15 (fun q32 H hP hD hS => ?_)
  have hP : va_P D classes [(h0, .inr (5, [.int (Int32.ofInt 0), .ref q31, .null, .null, .null, .null])), (q31, aI cI 31 60), (q32, aI cI 32 60)] H := hP
  have hD : va_D A [(h0, .inr (5, [.int (Int32.ofInt 0), .ref q31, .null, .null, .null, .null])), (q31, aI cI 31 60), (q32, aI cI 32 60)] := hD
  refine va_putF (D := D) (ci := 5) (v := .ref q32) (ty := tyX5 2) (C := RX5) (T := TX5) (N := 6) hx hb hts inK5 tyX5 tyX5_ok nmX5 hown hK hP hD hS 0 rfl rfl 2 (by decide) (hts (.fieldLink RX5 15 "LaughsLast$Seen" "funny" "[I") (tc_2 10 rfl rfl)) (fun _ h9 => h9) rfl hin rfl (tyX5_ok 2 (by decide)) rfl rfl (Nat.le_of_ble_eq_true rfl) dX5_init_17 (fun H locs hP hD hS => ?_)
  have hP : va_P D classes [(h0, .inr (5, [.int (Int32.ofInt 0), .ref q31, .ref q32, .null, .null, .null])), (q31, aI cI 31 60), (q32, aI cI 32 60)] H := hP
  have hD : va_D A [(h0, .inr (5, [.int (Int32.ofInt 0), .ref q31, .ref q32, .null, .null, .null])), (q31, aI cI 31 60), (q32, aI cI 32 60)] := hD
  refine lv_aload_n hx hb dX5_init_20 rfl (lv_at hl 0 rfl) ?_
  refine lv_bipush (v := Int32.ofInt (60)) hx hb dX5_init_21 (by decide) ?_
  refine n_newa (a0 := (60, .inl (fun j => Int32.ofInt (μ0 33 j)))) (N' := 60) (n := Int32.ofInt (60)) (ty := .int) (cT := cI) (atype := .int) hx hb (hts (.arrayClass .int) (tc_1 68 rfl rfl)) rfl 0 rfl (fun _ _ => rfl) hK hP hD hS hA (cell_I (fun _ => rfl)) (by decide) (by decide) (by decide) (Nat.le_of_ble_eq_true rfl) (Nat.le_of_ble_eq_true rfl) dX5_init_23 (fun q33 H hP hD hS => ?_)
  have hP : va_P D classes [(h0, .inr (5, [.int (Int32.ofInt 0), .ref q31, .ref q32, .null, .null, .null])), (q31, aI cI 31 60), (q32, aI cI 32 60), (q33, aI cI 33 60)] H := hP
  have hD : va_D A [(h0, .inr (5, [.int (Int32.ofInt 0), .ref q31, .ref q32, .null, .null, .null])), (q31, aI cI 31 60), (q32, aI cI 32 60), (q33, aI cI 33 60)] := hD
  refine va_putF (D := D) (ci := 5) (v := .ref q33) (ty := tyX5 3) (C := RX5) (T := TX5) (N := 6) hx hb hts inK5 tyX5 tyX5_ok nmX5 hown hK hP hD hS 0 rfl rfl 3 (by decide) (hts (.fieldLink RX5 18 "LaughsLast$Seen" "mood" "[I") (tc_2 11 rfl rfl)) (fun _ h9 => h9) rfl hin rfl (tyX5_ok 3 (by decide)) rfl rfl (Nat.le_of_ble_eq_true rfl) dX5_init_25 (fun H locs hP hD hS => ?_)
  have hP : va_P D classes [(h0, .inr (5, [.int (Int32.ofInt 0), .ref q31, .ref q32, .ref q33, .null, .null])), (q31, aI cI 31 60), (q32, aI cI 32 60), (q33, aI cI 33 60)] H := hP
  have hD : va_D A [(h0, .inr (5, [.int (Int32.ofInt 0), .ref q31, .ref q32, .ref q33, .null, .null])), (q31, aI cI 31 60), (q32, aI cI 32 60), (q33, aI cI 33 60)] := hD
  refine lv_aload_n hx hb dX5_init_28 rfl (lv_at hl 0 rfl) ?_
  refine lv_bipush (v := Int32.ofInt (60)) hx hb dX5_init_29 (by decide) ?_
  refine n_newa (a0 := (60, .inl (fun j => Int32.ofInt (μ0 34 j)))) (N' := 60) (n := Int32.ofInt (60)) (ty := .int) (cT := cI) (atype := .int) hx hb (hts (.arrayClass .int) (tc_1 68 rfl rfl)) rfl 0 rfl (fun _ _ => rfl) hK hP hD hS hA (cell_I (fun _ => rfl)) (by decide) (by decide) (by decide) (Nat.le_of_ble_eq_true rfl) (Nat.le_of_ble_eq_true rfl) dX5_init_31 (fun q34 H hP hD hS => ?_)
  have hP : va_P D classes [(h0, .inr (5, [.int (Int32.ofInt 0), .ref q31, .ref q32, .ref q33, .null, .null])), (q31, aI cI 31 60), (q32, aI cI 32 60), (q33, aI cI 33 60), (q34, aI cI 34 60)] H := hP
  have hD : va_D A [(h0, .inr (5, [.int (Int32.ofInt 0), .ref q31, .ref q32, .ref q33, .null, .null])), (q31, aI cI 31 60), (q32, aI cI 32 60), (q33, aI cI 33 60), (q34, aI cI 34 60)] := hD
  refine va_putF (D := D) (ci := 5) (v := .ref q34) (ty := tyX5 4) (C := RX5) (T := TX5) (N := 6) hx hb hts inK5 tyX5 tyX5_ok nmX5 hown hK hP hD hS 0 rfl rfl 4 (by decide) (hts (.fieldLink RX5 21 "LaughsLast$Seen" "held" "[I") (tc_2 12 rfl rfl)) (fun _ h9 => h9) rfl hin rfl (tyX5_ok 4 (by decide)) rfl rfl (Nat.le_of_ble_eq_true rfl) dX5_init_33 (fun H locs hP hD hS => ?_)
  have hP : va_P D classes [(h0, .inr (5, [.int (Int32.ofInt 0), .ref q31, .ref q32, .ref q33, .ref q34, .null])), (q31, aI cI 31 60), (q32, aI cI 32 60), (q33, aI cI 33 60), (q34, aI cI 34 60)] H := hP
  have hD : va_D A [(h0, .inr (5, [.int (Int32.ofInt 0), .ref q31, .ref q32, .ref q33, .ref q34, .null])), (q31, aI cI 31 60), (q32, aI cI 32 60), (q33, aI cI 33 60), (q34, aI cI 34 60)] := hD
  refine lv_aload_n hx hb dX5_init_36 rfl (lv_at hl 0 rfl) ?_
  refine lv_bipush (v := Int32.ofInt (60)) hx hb dX5_init_37 (by decide) ?_
  refine n_newa (a0 := (60, .inl (fun j => Int32.ofInt (μ0 35 j)))) (N' := 60) (n := Int32.ofInt (60)) (ty := .int) (cT := cI) (atype := .int) hx hb (hts (.arrayClass .int) (tc_1 68 rfl rfl)) rfl 0 rfl (fun _ _ => rfl) hK hP hD hS hA (cell_I (fun _ => rfl)) (by decide) (by decide) (by decide) (Nat.le_of_ble_eq_true rfl) (Nat.le_of_ble_eq_true rfl) dX5_init_39 (fun q35 H hP hD hS => ?_)
  have hP : va_P D classes [(h0, .inr (5, [.int (Int32.ofInt 0), .ref q31, .ref q32, .ref q33, .ref q34, .null])), (q31, aI cI 31 60), (q32, aI cI 32 60), (q33, aI cI 33 60), (q34, aI cI 34 60), (q35, aI cI 35 60)] H := hP
  have hD : va_D A [(h0, .inr (5, [.int (Int32.ofInt 0), .ref q31, .ref q32, .ref q33, .ref q34, .null])), (q31, aI cI 31 60), (q32, aI cI 32 60), (q33, aI cI 33 60), (q34, aI cI 34 60), (q35, aI cI 35 60)] := hD
  refine va_putF (D := D) (ci := 5) (v := .ref q35) (ty := tyX5 5) (C := RX5) (T := TX5) (N := 6) hx hb hts inK5 tyX5 tyX5_ok nmX5 hown hK hP hD hS 0 rfl rfl 5 (by decide) (hts (.fieldLink RX5 24 "LaughsLast$Seen" "laughed" "[I") (tc_2 13 rfl rfl)) (fun _ h9 => h9) rfl hin rfl (tyX5_ok 5 (by decide)) rfl rfl (Nat.le_of_ble_eq_true rfl) dX5_init_41 (fun H locs hP hD hS => ?_)
  have hP : va_P D classes [(h0, .inr (5, [.int (Int32.ofInt 0), .ref q31, .ref q32, .ref q33, .ref q34, .ref q35])), (q31, aI cI 31 60), (q32, aI cI 32 60), (q33, aI cI 33 60), (q34, aI cI 34 60), (q35, aI cI 35 60)] H := hP
  have hD : va_D A [(h0, .inr (5, [.int (Int32.ofInt 0), .ref q31, .ref q32, .ref q33, .ref q34, .ref q35])), (q31, aI cI 31 60), (q32, aI cI 32 60), (q33, aI cI 33 60), (q34, aI cI 34 60), (q35, aI cI 35 60)] := hD
  have hP : va_P D classes [(h0, .inr (5, [.int (Int32.ofInt 0), .ref q31, .ref q32, .ref q33, .ref q34, .ref q35])), (q31, aI cI 31 60), (q32, aI cI 32 60), (q33, aI cI 33 60), (q34, aI cI 34 60), (q35, aI cI 35 60)] H := hP
  have hD : va_D A [(h0, .inr (5, [.int (Int32.ofInt 0), .ref q31, .ref q32, .ref q33, .ref q34, .ref q35])), (q31, aI cI 31 60), (q32, aI cI 32 60), (q33, aI cI 33 60), (q34, aI cI 34 60), (q35, aI cI 35 60)] := hD
  refine W.widen (k := 5) (n := 300) (Nat.le_of_ble_eq_true rfl) (Nat.le_of_ble_eq_true rfl) ?_
  exact W.vret hx hb hr (fun t ht hW => ⟨⟨(fun k => if k = 31 then q31 else if k = 32 then q32 else if k = 33 then q33 else if k = 34 then q34 else if k = 35 then q35 else 0), rfl, trivial, by rw [ht]; exact hP, hD⟩, hS.F ht⟩) hS.2.2 dX5_init_44
set_option maxHeartbeats 4000000 in
set_option maxRecDepth 100000 in
theorem n_X7_init (l : Launch) (D : va_G) (cI cL cZ : ClassId) (h0 : Nat) (sz : Nat) : Met l yX7_init (.code yX7_init cX7_init 1 none :: tblG) ({ frames := 1, cells := 3, slots := 248, locals := 12 }) (va_Pc [.ref h0] (fun U => U.heap.size = sz ∧ va_P D classes [(h0, .inr (7, [.int (Int32.ofInt 0), .null, .null, .null]))] U.heap ∧ va_K D classes [(cI, .int), (cL, .long), (cZ, .boolean)] U ∧ va_D (fun _ => True) [(h0, .inr (7, [.int (Int32.ofInt 0), .null, .null, .null]))])) (va_Qv (fun _ : Nat → Nat => True) (fun u t => va_P D classes [(h0, .inr (7, [.int (Int32.ofInt 0), .ref (u 36), .ref (u 37), .ref (u 38)])), ((u 36), aI cI 36 4), ((u 37), aI cI 37 4), ((u 38), aI cI 38 240)] t.heap ∧ va_D (va_A [(h0, .inr (7, [.int (Int32.ofInt 0), .null, .null, .null]))] sz) [(h0, .inr (7, [.int (Int32.ofInt 0), .ref (u 36), .ref (u 37), .ref (u 38)])), ((u 36), aI cI 36 4), ((u 37), aI cI 37 4), ((u 38), aI cI 38 240)]) (va_A [(h0, .inr (7, [.int (Int32.ofInt 0), .null, .null, .null]))] sz)) 3 248 (va_A [(h0, .inr (7, [.int (Int32.ofInt 0), .null, .null, .null]))] sz) := by
  refine Met.ofW (cc := cX7_init) (maxL := 1) (ret := none) (by decide) rfl ?_
  intro p e s m args below meth c s₁ B hml hv
  obtain ⟨rfl, hsz, hP, hK, hD0⟩ := hv
  have hx := B.exec
  have hb := B.bytes
  have hr := B.returns
  have hts0 := atoms_spec (ws := .code yX7_init cX7_init 1 none :: tblG) B.pre
  have hts : ∀ w ∈ tblG, w.before [.ref h0].toArray s = true := fun w hw => hts0 w (List.mem_cons_of_mem _ hw)
  have hown : s.vm.findClass RX7 = some m.cls := findClass_of_methodNamed B.named
  have hlocks := B.notSynchronized
  have hin : meth.name = "<init>" := (name_of_methodNamed B.named B.method).1
  subst hsz
  have hD := hD0.self (sz := s.heap.size)
  generalize hAe : va_A [(h0, .inr (7, [.int (Int32.ofInt 0), .null, .null, .null]))] s.heap.size = A at hD ⊢
  have hA : ∀ q : Nat, s.heap.size ≤ q → A q := fun q h => by rw [← hAe]; exact Or.inr h
  have hS : va_S A s.heap s.heap [] := va_S.rf
  have hl := lv_entry ([.ref h0]) (n := 1) (Nat.le_of_ble_eq_true rfl)
  rw [lg_entry_eq]
  generalize (lg_sl ([.ref h0]) ++ List.replicate (1 - (lg_sl ([.ref h0])).length) Slot.unset).toArray = ls at hl ⊢
  have hl : lv_has ls 1 [(0, .ref h0)] := hl
  refine lv_aload_n hx hb dX7_init_0 rfl (lv_at hl 0 rfl) ?_
  refine W.objInit hx hb hown (hts (.methodLink RX7 3 objectInit) (tc_2 32 rfl rfl)) (hts (.instanceMethod objectInit) (tc_1 20 rfl rfl)) (hts (.code objectInit ⟨#[0xb1]⟩ 1 none) (tc_1 21 rfl rfl)) rfl (by rw [hml]; exact hl.1) rfl dX7_init_1 (Nat.le_of_ble_eq_true rfl) (Nat.le_of_ble_eq_true rfl) ?_
  refine W.eq (g2 := F0 m 4 ls []) rfl ?_
  refine lv_aload_n hx hb dX7_init_4 rfl (lv_at hl 0 rfl) ?_
  refine lv_iconst (v := Int32.ofInt (4)) hx hb dX7_init_5 rfl ?_
  refine n_newa (a0 := (4, .inl (fun _ => 0))) (N' := 4) (n := Int32.ofInt (4)) (ty := .int) (cT := cI) (atype := .int) hx hb (hts (.arrayClass .int) (tc_1 68 rfl rfl)) rfl 0 rfl (fun _ _ => rfl) hK hP hD hS hA cell_0 (by decide) (by decide) (by decide) (Nat.le_of_ble_eq_true rfl) (Nat.le_of_ble_eq_true rfl) dX7_init_6 (fun q36 H hP hD hS => ?_)
  have hP : va_P D classes [(h0, .inr (7, [.int (Int32.ofInt 0), .null, .null, .null])), (q36, .inl (cI, 4, .inl (fun _ => 0)))] H := hP
  have hD : va_D A [(h0, .inr (7, [.int (Int32.ofInt 0), .null, .null, .null])), (q36, .inl (cI, 4, .inl (fun _ => 0)))] := hD
  refine lv_dup hx hb dX7_init_8 rfl ?_
  refine lv_iconst (v := Int32.ofInt (0)) hx hb dX7_init_9 rfl ?_
  refine lv_iconst (v := Int32.ofInt (-1)) hx hb dX7_init_10 rfl ?_
  refine va_iast hx hb hK hP hD hS 1 0 rfl rfl (i32_in (by decide) (by decide) (by decide)) dX7_init_11 (fun H locs hP hD hS => ?_)
  have hP : va_P D classes [(h0, .inr (7, [.int (Int32.ofInt 0), .null, .null, .null])), (q36, .inl (cI, 4, .inl (upd (fun _ => 0) (Int32.ofInt 0).toNatClampNeg (Int32.ofInt (-1)))))] H := hP
  have hD : va_D A [(h0, .inr (7, [.int (Int32.ofInt 0), .null, .null, .null])), (q36, .inl (cI, 4, .inl (upd (fun _ => 0) (Int32.ofInt 0).toNatClampNeg (Int32.ofInt (-1)))))] := hD
  refine lv_dup hx hb dX7_init_12 rfl ?_
  refine lv_iconst (v := Int32.ofInt (1)) hx hb dX7_init_13 rfl ?_
  refine lv_iconst (v := Int32.ofInt (-1)) hx hb dX7_init_14 rfl ?_
  refine va_iast hx hb hK hP hD hS 1 0 rfl rfl (i32_in (by decide) (by decide) (by decide)) dX7_init_15 (fun H locs hP hD hS => ?_)
  have hP : va_P D classes [(h0, .inr (7, [.int (Int32.ofInt 0), .null, .null, .null])), (q36, .inl (cI, 4, .inl (upd (upd (fun _ => 0) (Int32.ofInt 0).toNatClampNeg (Int32.ofInt (-1))) (Int32.ofInt 1).toNatClampNeg (Int32.ofInt (-1)))))] H := hP
  have hD : va_D A [(h0, .inr (7, [.int (Int32.ofInt 0), .null, .null, .null])), (q36, .inl (cI, 4, .inl (upd (upd (fun _ => 0) (Int32.ofInt 0).toNatClampNeg (Int32.ofInt (-1))) (Int32.ofInt 1).toNatClampNeg (Int32.ofInt (-1)))))] := hD
  refine lv_dup hx hb dX7_init_16 rfl ?_
  refine lv_iconst (v := Int32.ofInt (2)) hx hb dX7_init_17 rfl ?_
  refine lv_iconst (v := Int32.ofInt (-1)) hx hb dX7_init_18 rfl ?_
  refine va_iast hx hb hK hP hD hS 1 0 rfl rfl (i32_in (by decide) (by decide) (by decide)) dX7_init_19 (fun H locs hP hD hS => ?_)
  have hP : va_P D classes [(h0, .inr (7, [.int (Int32.ofInt 0), .null, .null, .null])), (q36, .inl (cI, 4, .inl (upd (upd (upd (fun _ => 0) (Int32.ofInt 0).toNatClampNeg (Int32.ofInt (-1))) (Int32.ofInt 1).toNatClampNeg (Int32.ofInt (-1))) (Int32.ofInt 2).toNatClampNeg (Int32.ofInt (-1)))))] H := hP
  have hD : va_D A [(h0, .inr (7, [.int (Int32.ofInt 0), .null, .null, .null])), (q36, .inl (cI, 4, .inl (upd (upd (upd (fun _ => 0) (Int32.ofInt 0).toNatClampNeg (Int32.ofInt (-1))) (Int32.ofInt 1).toNatClampNeg (Int32.ofInt (-1))) (Int32.ofInt 2).toNatClampNeg (Int32.ofInt (-1)))))] := hD
  refine lv_dup hx hb dX7_init_20 rfl ?_
  refine lv_iconst (v := Int32.ofInt (3)) hx hb dX7_init_21 rfl ?_
  refine lv_iconst (v := Int32.ofInt (-1)) hx hb dX7_init_22 rfl ?_
  refine va_iast hx hb hK hP hD hS 1 0 rfl rfl (i32_in (by decide) (by decide) (by decide)) dX7_init_23 (fun H locs hP hD hS => ?_)
  have hP : va_P D classes [(h0, .inr (7, [.int (Int32.ofInt 0), .null, .null, .null])), (q36, .inl (cI, 4, .inl (upd (upd (upd (upd (fun _ => 0) (Int32.ofInt 0).toNatClampNeg (Int32.ofInt (-1))) (Int32.ofInt 1).toNatClampNeg (Int32.ofInt (-1))) (Int32.ofInt 2).toNatClampNeg (Int32.ofInt (-1))) (Int32.ofInt 3).toNatClampNeg (Int32.ofInt (-1)))))] H := hP
  have hD : va_D A [(h0, .inr (7, [.int (Int32.ofInt 0), .null, .null, .null])), (q36, .inl (cI, 4, .inl (upd (upd (upd (upd (fun _ => 0) (Int32.ofInt 0).toNatClampNeg (Int32.ofInt (-1))) (Int32.ofInt 1).toNatClampNeg (Int32.ofInt (-1))) (Int32.ofInt 2).toNatClampNeg (Int32.ofInt (-1))) (Int32.ofInt 3).toNatClampNeg (Int32.ofInt (-1)))))] := hD
  refine va_putF (D := D) (ci := 7) (v := .ref q36) (ty := tyX7 1) (C := RX7) (T := TX7) (N := 4) hx hb hts inK7 tyX7 tyX7_ok nmX7 hown hK hP hD hS 0 rfl rfl 1 (by decide) (hts (.fieldLink RX7 11 "LaughsLast$Sheets" "sizes" "[I") (tc_2 35 rfl rfl)) (fun _ h9 => h9) rfl hin rfl (tyX7_ok 1 (by decide)) rfl rfl (Nat.le_of_ble_eq_true rfl) dX7_init_24 (fun H locs hP hD hS => ?_)
  have hP : va_P D classes [(h0, .inr (7, [.int (Int32.ofInt 0), .ref q36, .null, .null])), (q36, .inl (cI, 4, .inl (upd (upd (upd (upd (fun _ => 0) (Int32.ofInt 0).toNatClampNeg (Int32.ofInt (-1))) (Int32.ofInt 1).toNatClampNeg (Int32.ofInt (-1))) (Int32.ofInt 2).toNatClampNeg (Int32.ofInt (-1))) (Int32.ofInt 3).toNatClampNeg (Int32.ofInt (-1)))))] H := hP
  have hD : va_D A [(h0, .inr (7, [.int (Int32.ofInt 0), .ref q36, .null, .null])), (q36, .inl (cI, 4, .inl (upd (upd (upd (upd (fun _ => 0) (Int32.ofInt 0).toNatClampNeg (Int32.ofInt (-1))) (Int32.ofInt 1).toNatClampNeg (Int32.ofInt (-1))) (Int32.ofInt 2).toNatClampNeg (Int32.ofInt (-1))) (Int32.ofInt 3).toNatClampNeg (Int32.ofInt (-1)))))] := hD
  refine lv_aload_n hx hb dX7_init_27 rfl (lv_at hl 0 rfl) ?_
  refine lv_iconst (v := Int32.ofInt (4)) hx hb dX7_init_28 rfl ?_
  refine n_newa (a0 := (4, .inl (fun j => Int32.ofInt (μ0 37 j)))) (N' := 4) (n := Int32.ofInt (4)) (ty := .int) (cT := cI) (atype := .int) hx hb (hts (.arrayClass .int) (tc_1 68 rfl rfl)) rfl 0 rfl (fun _ _ => rfl) hK hP hD hS hA (cell_I (fun _ => rfl)) (by decide) (by decide) (by decide) (Nat.le_of_ble_eq_true rfl) (Nat.le_of_ble_eq_true rfl) dX7_init_29 (fun q37 H hP hD hS => ?_)
  have hP : va_P D classes [(h0, .inr (7, [.int (Int32.ofInt 0), .ref q36, .null, .null])), (q36, .inl (cI, 4, .inl (upd (upd (upd (upd (fun _ => 0) (Int32.ofInt 0).toNatClampNeg (Int32.ofInt (-1))) (Int32.ofInt 1).toNatClampNeg (Int32.ofInt (-1))) (Int32.ofInt 2).toNatClampNeg (Int32.ofInt (-1))) (Int32.ofInt 3).toNatClampNeg (Int32.ofInt (-1))))), (q37, aI cI 37 4)] H := hP
  have hD : va_D A [(h0, .inr (7, [.int (Int32.ofInt 0), .ref q36, .null, .null])), (q36, .inl (cI, 4, .inl (upd (upd (upd (upd (fun _ => 0) (Int32.ofInt 0).toNatClampNeg (Int32.ofInt (-1))) (Int32.ofInt 1).toNatClampNeg (Int32.ofInt (-1))) (Int32.ofInt 2).toNatClampNeg (Int32.ofInt (-1))) (Int32.ofInt 3).toNatClampNeg (Int32.ofInt (-1))))), (q37, aI cI 37 4)] := hD
  refine va_putF (D := D) (ci := 7) (v := .ref q37) (ty := tyX7 2) (C := RX7) (T := TX7) (N := 4) hx hb hts inK7 tyX7 tyX7_ok nmX7 hown hK hP hD hS 0 rfl rfl 2 (by decide) (hts (.fieldLink RX7 15 "LaughsLast$Sheets" "forms" "[I") (tc_2 37 rfl rfl)) (fun _ h9 => h9) rfl hin rfl (tyX7_ok 2 (by decide)) rfl rfl (Nat.le_of_ble_eq_true rfl) dX7_init_31 (fun H locs hP hD hS => ?_)
  have hP : va_P D classes [(h0, .inr (7, [.int (Int32.ofInt 0), .ref q36, .ref q37, .null])), (q36, .inl (cI, 4, .inl (upd (upd (upd (upd (fun _ => 0) (Int32.ofInt 0).toNatClampNeg (Int32.ofInt (-1))) (Int32.ofInt 1).toNatClampNeg (Int32.ofInt (-1))) (Int32.ofInt 2).toNatClampNeg (Int32.ofInt (-1))) (Int32.ofInt 3).toNatClampNeg (Int32.ofInt (-1))))), (q37, aI cI 37 4)] H := hP
  have hD : va_D A [(h0, .inr (7, [.int (Int32.ofInt 0), .ref q36, .ref q37, .null])), (q36, .inl (cI, 4, .inl (upd (upd (upd (upd (fun _ => 0) (Int32.ofInt 0).toNatClampNeg (Int32.ofInt (-1))) (Int32.ofInt 1).toNatClampNeg (Int32.ofInt (-1))) (Int32.ofInt 2).toNatClampNeg (Int32.ofInt (-1))) (Int32.ofInt 3).toNatClampNeg (Int32.ofInt (-1))))), (q37, aI cI 37 4)] := hD
  refine lv_aload_n hx hb dX7_init_34 rfl (lv_at hl 0 rfl) ?_
  refine lv_sipush (v := Int32.ofInt (240)) hx hb dX7_init_35 (by decide) ?_
  refine n_newa (a0 := (240, .inl (fun j => Int32.ofInt (μ0 38 j)))) (N' := 240) (n := Int32.ofInt (240)) (ty := .int) (cT := cI) (atype := .int) hx hb (hts (.arrayClass .int) (tc_1 68 rfl rfl)) rfl 0 rfl (fun _ _ => rfl) hK hP hD hS hA (cell_I (fun _ => rfl)) (by decide) (by decide) (by decide) (Nat.le_of_ble_eq_true rfl) (Nat.le_of_ble_eq_true rfl) dX7_init_38 (fun q38 H hP hD hS => ?_)
  have hP : va_P D classes [(h0, .inr (7, [.int (Int32.ofInt 0), .ref q36, .ref q37, .null])), (q36, .inl (cI, 4, .inl (upd (upd (upd (upd (fun _ => 0) (Int32.ofInt 0).toNatClampNeg (Int32.ofInt (-1))) (Int32.ofInt 1).toNatClampNeg (Int32.ofInt (-1))) (Int32.ofInt 2).toNatClampNeg (Int32.ofInt (-1))) (Int32.ofInt 3).toNatClampNeg (Int32.ofInt (-1))))), (q37, aI cI 37 4), (q38, aI cI 38 240)] H := hP
  have hD : va_D A [(h0, .inr (7, [.int (Int32.ofInt 0), .ref q36, .ref q37, .null])), (q36, .inl (cI, 4, .inl (upd (upd (upd (upd (fun _ => 0) (Int32.ofInt 0).toNatClampNeg (Int32.ofInt (-1))) (Int32.ofInt 1).toNatClampNeg (Int32.ofInt (-1))) (Int32.ofInt 2).toNatClampNeg (Int32.ofInt (-1))) (Int32.ofInt 3).toNatClampNeg (Int32.ofInt (-1))))), (q37, aI cI 37 4), (q38, aI cI 38 240)] := hD
  refine va_putF (D := D) (ci := 7) (v := .ref q38) (ty := tyX7 3) (C := RX7) (T := TX7) (N := 4) hx hb hts inK7 tyX7 tyX7_ok nmX7 hown hK hP hD hS 0 rfl rfl 3 (by decide) (hts (.fieldLink RX7 18 "LaughsLast$Sheets" "items" "[I") (tc_2 39 rfl rfl)) (fun _ h9 => h9) rfl hin rfl (tyX7_ok 3 (by decide)) rfl rfl (Nat.le_of_ble_eq_true rfl) dX7_init_40 (fun H locs hP hD hS => ?_)
  have hP : va_P D classes [(h0, .inr (7, [.int (Int32.ofInt 0), .ref q36, .ref q37, .ref q38])), (q36, .inl (cI, 4, .inl (upd (upd (upd (upd (fun _ => 0) (Int32.ofInt 0).toNatClampNeg (Int32.ofInt (-1))) (Int32.ofInt 1).toNatClampNeg (Int32.ofInt (-1))) (Int32.ofInt 2).toNatClampNeg (Int32.ofInt (-1))) (Int32.ofInt 3).toNatClampNeg (Int32.ofInt (-1))))), (q37, aI cI 37 4), (q38, aI cI 38 240)] H := hP
  have hD : va_D A [(h0, .inr (7, [.int (Int32.ofInt 0), .ref q36, .ref q37, .ref q38])), (q36, .inl (cI, 4, .inl (upd (upd (upd (upd (fun _ => 0) (Int32.ofInt 0).toNatClampNeg (Int32.ofInt (-1))) (Int32.ofInt 1).toNatClampNeg (Int32.ofInt (-1))) (Int32.ofInt 2).toNatClampNeg (Int32.ofInt (-1))) (Int32.ofInt 3).toNatClampNeg (Int32.ofInt (-1))))), (q37, aI cI 37 4), (q38, aI cI 38 240)] := hD
  have f36 : (upd (upd (upd (upd (fun _ => 0) (Int32.ofInt 0).toNatClampNeg (Int32.ofInt (-1))) (Int32.ofInt 1).toNatClampNeg (Int32.ofInt (-1))) (Int32.ofInt 2).toNatClampNeg (Int32.ofInt (-1))) (Int32.ofInt 3).toNatClampNeg (Int32.ofInt (-1))) = fun j : Nat => Int32.ofInt (μ0 36 j)   := four4
  rw [f36] at hP hD
  have hP : va_P D classes [(h0, .inr (7, [.int (Int32.ofInt 0), .ref q36, .ref q37, .ref q38])), (q36, aI cI 36 4), (q37, aI cI 37 4), (q38, aI cI 38 240)] H := hP
  have hD : va_D A [(h0, .inr (7, [.int (Int32.ofInt 0), .ref q36, .ref q37, .ref q38])), (q36, aI cI 36 4), (q37, aI cI 37 4), (q38, aI cI 38 240)] := hD
  refine W.widen (k := 3) (n := 248) (Nat.le_of_ble_eq_true rfl) (Nat.le_of_ble_eq_true rfl) ?_
  exact W.vret hx hb hr (fun t ht hW => ⟨⟨(fun k => if k = 36 then q36 else if k = 37 then q37 else if k = 38 then q38 else 0), rfl, trivial, by rw [ht]; exact hP, hD⟩, hS.F ht⟩) hS.2.2 dX7_init_43
