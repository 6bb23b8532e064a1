/-! ===== rows: an instruction of the abstract machine each ===== -/
section AMR
variable {sh : am_Sh} {M : am_M} {d : Nat} {Q : Option Value → am_St → Prop} {pc : Nat} {lv : List (Option Value)} {st : List Value} {σ : am_St}
theorem go_iconst {n : Int} (hd : decode M.2.1 pc = .ok (.iconst n, 1)) (k : am_Go sh M d Q (pc + 1) lv (.int (iZ n) :: st) σ) : am_Go sh M d Q pc lv st σ := by
  intro p l e D dA z φ s m args below meth c C H locs ls hP hS hl
  exact lv_iconst C.1 C.2.1 hd rfl (k p l e D dA z φ s m args below meth c C H locs ls hP hS hl)
theorem go_bipush {n : Int} (hd : decode M.2.1 pc = .ok (.bipush n, 2)) (hv : (Int8.ofInt n).toInt32 = iZ n) (k : am_Go sh M d Q (pc + 2) lv (.int (iZ n) :: st) σ) : am_Go sh M d Q pc lv st σ := by
  intro p l e D dA z φ s m args below meth c C H locs ls hP hS hl
  exact lv_bipush C.1 C.2.1 hd hv (k p l e D dA z φ s m args below meth c C H locs ls hP hS hl)
theorem go_sipush {n : Int} (hd : decode M.2.1 pc = .ok (.sipush n, 3)) (hv : (Int16.ofInt n).toInt32 = iZ n) (k : am_Go sh M d Q (pc + 3) lv (.int (iZ n) :: st) σ) : am_Go sh M d Q pc lv st σ := by
  intro p l e D dA z φ s m args below meth c C H locs ls hP hS hl
  exact lv_sipush C.1 C.2.1 hd hv (k p l e D dA z φ s m args below meth c C H locs ls hP hS hl)
theorem go_ldc {i : Nat} {n : Int} (hd : decode M.2.1 pc = .ok (.ldc i, 2)) (hc : Cond.constant M.1.cls i (iZ n) ∈ am_tbl) (k : am_Go sh M d Q (pc + 2) lv (.int (iZ n) :: st) σ) : am_Go sh M d Q pc lv st σ := by
  intro p l e D dA z φ s m args below meth c C H locs ls hP hS hl
  exact lv_ldc C.1 C.2.1 C.2.2.2.2.1 (C.2.2.2.2.2.1 _ (List.mem_cons_of_mem _ hc)) hd (k p l e D dA z φ s m args below meth c C H locs ls hP hS hl)
theorem go_ldcw {i : Nat} {n : Int} (hd : decode M.2.1 pc = .ok (.ldc_w i, 3)) (hc : Cond.constant M.1.cls i (iZ n) ∈ am_tbl) (k : am_Go sh M d Q (pc + 3) lv (.int (iZ n) :: st) σ) : am_Go sh M d Q pc lv st σ := by
  intro p l e D dA z φ s m args below meth c C H locs ls hP hS hl
  exact lv_ldcw C.1 C.2.1 C.2.2.2.2.1 (C.2.2.2.2.2.1 _ (List.mem_cons_of_mem _ hc)) hd (k p l e D dA z φ s m args below meth c C H locs ls hP hS hl)
theorem go_ldc2 {i : Nat} {n : Int} (hd : decode M.2.1 pc = .ok (.ldc2_w i, 3)) (hc : Cond.constantLong M.1.cls i (lZ n) ∈ am_tbl) (k : am_Go sh M d Q (pc + 3) lv (.long (lZ n) :: st) σ) : am_Go sh M d Q pc lv st σ := by
  intro p l e D dA z φ s m args below meth c C H locs ls hP hS hl
  exact lv_ldc2 C.1 C.2.1 C.2.2.2.2.1 (C.2.2.2.2.2.1 _ (List.mem_cons_of_mem _ hc)) hd (k p l e D dA z φ s m args below meth c C H locs ls hP hS hl)
theorem go_lconst {n : Fin 2} {v : Int} (hd : decode M.2.1 pc = .ok (.lconst n, 1)) (hv : Int64.ofNat (n : Nat) = lZ v) (k : am_Go sh M d Q (pc + 1) lv (.long (lZ v) :: st) σ) : am_Go sh M d Q pc lv st σ := by
  intro p l e D dA z φ s m args below meth c C H locs ls hP hS hl
  exact lv_lconst C.1 C.2.1 hd hv (k p l e D dA z φ s m args below meth c C H locs ls hP hS hl)
-- loads
theorem go_iload_n {i : Fin 4} {x : Int32} (hd : decode M.2.1 pc = .ok (.iload_n i, 1)) (hl : lv[(i : Nat)]? = some (some (.int x))) (k : am_Go sh M d Q (pc + 1) lv (.int x :: st) σ) : am_Go sh M d Q pc lv st σ := by
  intro p l e D dA z φ s m args below meth c C H locs ls hP hS hL
  exact lv_iload_n C.1 C.2.1 hd rfl (hL.2.2 _ _ hl) (k p l e D dA z φ s m args below meth c C H locs ls hP hS hL)
theorem go_iload {i : Nat} {x : Int32} (hd : decode M.2.1 pc = .ok (.iload i, 2)) (hl : lv[i]? = some (some (.int x))) (k : am_Go sh M d Q (pc + 2) lv (.int x :: st) σ) : am_Go sh M d Q pc lv st σ := by
  intro p l e D dA z φ s m args below meth c C H locs ls hP hS hL
  exact lv_iload C.1 C.2.1 hd (hL.2.2 _ _ hl) (k p l e D dA z φ s m args below meth c C H locs ls hP hS hL)
theorem go_lload_n {i : Fin 4} {x : Int64} (hd : decode M.2.1 pc = .ok (.lload_n i, 1)) (hl : lv[(i : Nat)]? = some (some (.long x))) (k : am_Go sh M d Q (pc + 1) lv (.long x :: st) σ) : am_Go sh M d Q pc lv st σ := by
  intro p l e D dA z φ s m args below meth c C H locs ls hP hS hL
  exact lv_lload_n C.1 C.2.1 hd rfl (hL.2.2 _ _ hl) (k p l e D dA z φ s m args below meth c C H locs ls hP hS hL)
theorem go_lload {i : Nat} {x : Int64} (hd : decode M.2.1 pc = .ok (.lload i, 2)) (hl : lv[i]? = some (some (.long x))) (k : am_Go sh M d Q (pc + 2) lv (.long x :: st) σ) : am_Go sh M d Q pc lv st σ := by
  intro p l e D dA z φ s m args below meth c C H locs ls hP hS hL
  exact lv_lload C.1 C.2.1 hd (hL.2.2 _ _ hl) (k p l e D dA z φ s m args below meth c C H locs ls hP hS hL)
theorem go_aload_n {i : Fin 4} {x : Nat} (hd : decode M.2.1 pc = .ok (.aload_n i, 1)) (hl : lv[(i : Nat)]? = some (some (.ref x))) (k : am_Go sh M d Q (pc + 1) lv (.ref x :: st) σ) : am_Go sh M d Q pc lv st σ := by
  intro p l e D dA z φ s m args below meth c C H locs ls hP hS hL
  exact lv_aload_n C.1 C.2.1 hd rfl (hL.2.2 _ _ hl) (k p l e D dA z φ s m args below meth c C H locs ls hP hS hL)
theorem go_aload {i : Nat} {x : Nat} (hd : decode M.2.1 pc = .ok (.aload i, 2)) (hl : lv[i]? = some (some (.ref x))) (k : am_Go sh M d Q (pc + 2) lv (.ref x :: st) σ) : am_Go sh M d Q pc lv st σ := by
  intro p l e D dA z φ s m args below meth c C H locs ls hP hS hL
  exact lv_aload C.1 C.2.1 hd (hL.2.2 _ _ hl) (k p l e D dA z φ s m args below meth c C H locs ls hP hS hL)
-- stores
def am_pl (φ : Nat → Nat) (lv : List (Option Value)) : List (Nat × Value) := (List.range lv.length).filterMap (fun i => (lv[i]?.join).map (fun v => (i, am_v φ v)))
theorem am_pl_mem {φ : Nat → Nat} {lv : List (Option Value)} {q : Nat × Value} : q ∈ am_pl φ lv ↔ ∃ v, lv[q.1]? = some (some v) ∧ q.2 = am_v φ v := by
  unfold am_pl
  rw [List.mem_filterMap]
  constructor
  · rintro ⟨i, hi, h⟩
    cases hj : lv[i]? with
    | none => rw [hj] at h; cases h
    | some o =>
      cases o with
      | none => rw [hj] at h; cases h
      | some v => rw [hj] at h; cases h; exact ⟨v, hj, rfl⟩
  · rintro ⟨v, h, h2⟩
    refine ⟨q.1, ?_, ?_⟩
    · rw [List.mem_range]; exact (List.getElem?_eq_some_iff.mp h).1
    · rw [h]; show some (q.1, am_v φ v) = some q; rw [← h2]
theorem am_Ls.has {φ : Nat → Nat} {n : Nat} {ls : Array Slot} {lv : List (Option Value)} (h : am_Ls φ ls n lv) : lv_has ls n (am_pl φ lv) := by
  refine ⟨h.1, h.2.1, fun q hq => ?_⟩
  obtain ⟨v, h1, h2⟩ := am_pl_mem.mp hq
  rw [h2]; exact h.2.2 _ _ h1
def am_nl : Option Value → Bool
  | some (.long _) => false
  | some (.double _) => false
  | _ => true
theorem am_nl_cat {v : Value} (h : am_nl (some v) = true) : v.category = 1 := by cases v <;> first | rfl | cases h
theorem am_Ls.st1 {φ : Nat → Nat} {n i : Nat} {ls' : Array Slot} {lv : List (Option Value)} {v : Value} (hp : ∀ j o, j + 1 = i → lv[j]? = some o → am_nl o = true)
    (h : lv_has ls' n ((i, am_v φ v) :: (am_pl φ lv).filter (fun q => !(q.1 == i) && !(q.1 + 1 == i && q.2.category == 2)))) : am_Ls φ ls' n (lv.set i (some v)) := by
  refine ⟨h.1, h.2.1, fun j w hj => ?_⟩
  by_cases hji : j = i
  · subst hji
    have hlt : j < lv.length := by
      have := (List.getElem?_eq_some_iff.mp hj).1
      rwa [List.length_set] at this
    rw [List.getElem?_set_self hlt] at hj
    cases hj
    exact h.2.2 (j, am_v φ v) List.mem_cons_self
  · rw [List.getElem?_set_ne (Ne.symm hji)] at hj
    refine h.2.2 (j, am_v φ w) (List.mem_cons_of_mem _ (List.mem_filter.mpr ⟨am_pl_mem.mpr ⟨w, hj, rfl⟩, ?_⟩))
    by_cases h1 : j + 1 = i
    · have := am_nl_cat (hp j _ h1 hj)
      simp [hji, am_cat, this]
    · simp [hji, h1]
theorem am_Ls.st2 {φ : Nat → Nat} {n i : Nat} {ls' : Array Slot} {lv : List (Option Value)} {v : Value} (hp : ∀ j o, j + 1 = i → lv[j]? = some o → am_nl o = true)
    (h : lv_has ls' n ((i, am_v φ v) :: (am_pl φ lv).filter (fun q => !(q.1 == i) && (!(q.1 == i + 1) && !(q.1 + 1 == i && q.2.category == 2))))) : am_Ls φ ls' n ((lv.set i (some v)).set (i + 1) none) := by
  refine ⟨h.1, h.2.1, fun j w hj => ?_⟩
  by_cases hj1 : j = i + 1
  · subst hj1
    have hlt : i + 1 < (lv.set i (some v)).length := by
      have := (List.getElem?_eq_some_iff.mp hj).1
      rwa [List.length_set] at this
    rw [List.getElem?_set_self hlt] at hj
    cases hj
  · rw [List.getElem?_set_ne (Ne.symm hj1)] at hj
    by_cases hji : j = i
    · subst hji
      have hlt : j < lv.length := by
        have := (List.getElem?_eq_some_iff.mp hj).1
        rwa [List.length_set] at this
      rw [List.getElem?_set_self hlt] at hj
      cases hj
      exact h.2.2 (j, am_v φ v) List.mem_cons_self
    · rw [List.getElem?_set_ne (Ne.symm hji)] at hj
      refine h.2.2 (j, am_v φ w) (List.mem_cons_of_mem _ (List.mem_filter.mpr ⟨am_pl_mem.mpr ⟨w, hj, rfl⟩, ?_⟩))
      by_cases h1 : j + 1 = i
      · have := am_nl_cat (hp j _ h1 hj)
        simp [hji, hj1, am_cat, this]
      · simp [hji, hj1, h1]
theorem go_istore_n {i : Fin 4} {x : Int32} (hd : decode M.2.1 pc = .ok (.istore_n i, 1)) (hn : (i : Nat) < M.2.2.1) (hp : ∀ j o, j + 1 = (i : Nat) → lv[j]? = some o → am_nl o = true) (k : am_Go sh M d Q (pc + 1) (lv.set i (some (.int x))) st σ) : am_Go sh M d Q pc lv (.int x :: st) σ := by
  intro p l e D dA z φ s m args below meth c C H locs ls hP hS hL
  exact lv_istore_n C.1 C.2.1 hd rfl hL.has hn rfl (fun ls' h' => k p l e D dA z φ s m args below meth c C H locs ls' hP hS (am_Ls.st1 (v := .int x) hp h'))
theorem go_istore {i : Nat} {x : Int32} (hd : decode M.2.1 pc = .ok (.istore i, 2)) (hn : i < M.2.2.1) (hp : ∀ j o, j + 1 = i → lv[j]? = some o → am_nl o = true) (k : am_Go sh M d Q (pc + 2) (lv.set i (some (.int x))) st σ) : am_Go sh M d Q pc lv (.int x :: st) σ := by
  intro p l e D dA z φ s m args below meth c C H locs ls hP hS hL
  exact lv_istore C.1 C.2.1 hd hL.has hn rfl (fun ls' h' => k p l e D dA z φ s m args below meth c C H locs ls' hP hS (am_Ls.st1 (v := .int x) hp h'))
theorem go_astore_n {i : Fin 4} {x : Nat} (hd : decode M.2.1 pc = .ok (.astore_n i, 1)) (hn : (i : Nat) < M.2.2.1) (hp : ∀ j o, j + 1 = (i : Nat) → lv[j]? = some o → am_nl o = true) (k : am_Go sh M d Q (pc + 1) (lv.set i (some (.ref x))) st σ) : am_Go sh M d Q pc lv (.ref x :: st) σ := by
  intro p l e D dA z φ s m args below meth c C H locs ls hP hS hL
  exact lv_astore_n C.1 C.2.1 hd rfl hL.has hn rfl (fun ls' h' => k p l e D dA z φ s m args below meth c C H locs ls' hP hS (am_Ls.st1 (v := .ref x) hp h'))
theorem go_lstore_n {i : Fin 4} {x : Int64} (hd : decode M.2.1 pc = .ok (.lstore_n i, 1)) (hn : (i : Nat) + 1 < M.2.2.1) (hp : ∀ j o, j + 1 = (i : Nat) → lv[j]? = some o → am_nl o = true) (k : am_Go sh M d Q (pc + 1) ((lv.set i (some (.long x))).set (i + 1) none) st σ) : am_Go sh M d Q pc lv (.long x :: st) σ := by
  intro p l e D dA z φ s m args below meth c C H locs ls hP hS hL
  exact lv_lstore_n C.1 C.2.1 hd rfl hL.has hn rfl (fun ls' h' => k p l e D dA z φ s m args below meth c C H locs ls' hP hS (am_Ls.st2 (v := .long x) hp h'))
theorem go_lstore {i : Nat} {x : Int64} (hd : decode M.2.1 pc = .ok (.lstore i, 2)) (hn : i + 1 < M.2.2.1) (hp : ∀ j o, j + 1 = i → lv[j]? = some o → am_nl o = true) (k : am_Go sh M d Q (pc + 2) ((lv.set i (some (.long x))).set (i + 1) none) st σ) : am_Go sh M d Q pc lv (.long x :: st) σ := by
  intro p l e D dA z φ s m args below meth c C H locs ls hP hS hL
  exact lv_lstore C.1 C.2.1 hd hL.has hn rfl (fun ls' h' => k p l e D dA z φ s m args below meth c C H locs ls' hP hS (am_Ls.st2 (v := .long x) hp h'))
theorem go_iinc {i : Nat} {n a : Int} (hd : decode M.2.1 pc = .ok (.iinc i n, 3)) (hl : lv[i]? = some (some (.int (iZ a)))) (hn : i < M.2.2.1) (hp : ∀ j o, j + 1 = i → lv[j]? = some o → am_nl o = true) (k : am_Go sh M d Q (pc + 3) (lv.set i (some (.int (iZ (a + n))))) st σ) : am_Go sh M d Q pc lv st σ := by
  intro p l e D dA z φ s m args below meth c C H locs ls hP hS hL
  obtain ⟨j, hj⟩ := List.getElem?_of_mem (am_pl_mem.mpr ⟨Value.int (iZ a), hl, rfl⟩ : (i, am_v φ (.int (iZ a))) ∈ am_pl φ lv)
  exact lv_iinc C.1 C.2.1 hd hL.has hj (v := iZ (a + n)) (Int32.ofInt_add a n).symm hn rfl (fun ls' h' => k p l e D dA z φ s m args below meth c C H locs ls' hP hS (am_Ls.st1 (v := .int (iZ (a + n))) hp h'))
/-- locals may be forgotten -/
theorem go_weak {lv' : List (Option Value)} (h : ∀ (i : Nat) (v : Value), lv'[i]? = some (some v) → lv[i]? = some (some v)) (k : am_Go sh M d Q pc lv' st σ) : am_Go sh M d Q pc lv st σ := by
  intro p l e D dA z φ s m args below meth c C H locs ls hP hS hL
  exact k p l e D dA z φ s m args below meth c C H locs ls hP hS ⟨hL.1, hL.2.1, fun i v hi => hL.2.2 i v (h i v hi)⟩
end AMR
