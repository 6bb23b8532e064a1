/-! ===== rows of the machine that makes objects ===== -/
theorem va_nd_of : ∀ (l : List Nat), l.Nodup → va_nd l = true
  | [], _ => rfl
  | a :: l, h => by
    obtain ⟨h1, h2⟩ := List.nodup_cons.mp h
    show (decide (a ∉ l) && va_nd l) = true
    rw [va_nd_of l h2, decide_eq_true h1]
    rfl
theorem iZ_nn {n : Nat} (hn : n < 2147483648) : ¬ iZ (n : Int) < 0 := fun h => by
  have h2 : iZ (n : Int) < iZ 0 := h
  have := (iZ_lt (a := (n : Int)) (b := 0) ⟨by omega, by omega⟩ ⟨by omega, by omega⟩).mp h2
  omega
theorem al_ext {D : va_G} {dA : Nat → ClassId} {A : Nat → Prop} {h0 q : Nat} {s : State} {args : Array Value} {φ : Nat → Nat} {H1 : Heap} {locs : List Loc} {w : List al_C} {x : al_C} {G : al_G} (g0 : φ 0 = h0 ∧ G s args A (φ 1000000)) (hc : al_cl w) (hw : 0 < w.length) (hb : w.length < 1000000) (hx : al_cb (w.length + 1) x) {E : va_E} (hE : E = al_E dA (al_up φ w.length q) x) (hP1 : va_P D am_cl (al_ws dA φ w ++ [(q, E)]) H1) (hD1 : va_D A (al_ws dA φ w ++ [(q, E)])) (hS1 : va_S A s.heap H1 locs) : al_B G (w ++ [x]) D dA A h0 s args (al_up φ w.length q) H1 locs := by
  have e1 : al_ws dA φ w ++ [(q, E)] = al_ws dA (al_up φ w.length q) (w ++ [x]) := by
    rw [al_ws_snoc, al_up_eq, hE, al_ws_cg hc (fun i hi => al_up_ag hb i (Or.inl hi))]
  rw [e1] at hP1 hD1
  exact ⟨⟨(al_up_ag hb 0 (Or.inl hw)).trans g0.1, by rw [al_up_ag hb 1000000 (Or.inr (Nat.le_refl _))]; exact g0.2⟩, al_cl_snoc hc hx, hP1, hD1, hS1⟩
/-- an object of this kind can be made here, its fields as new -/
def al_N (own : String) (idx ci N : Nat) (fs : List (Nat × Int)) : Prop := ∃ (C : String) (T : u_T) (ty0 : Nat → FieldType), am_cl[ci]? = some (C, T, N) ∧ (∀ w ∈ u_ws C T N, w ∈ am_tbl) ∧ (∀ k, k < N → parseFieldDescriptor (T k).2.2.1 = some (ty0 k)) ∧ Cond.classLink own idx C ∈ am_tbl ∧ Cond.instantiable C N ∈ am_tbl ∧ Cond.initialized C ∈ am_tbl ∧ (∀ j, j < N → defaultValue (ty0 j) = vp_V (fs.map (al_fv id)) j) ∧ ∀ f ∈ fs, f.1 < 3
def al_MI (M2 : am_M) (n : Nat) : Prop := M2.2.2.2 = none ∧ M2.1.name = "<init>" ∧ Cond.instanceMethod M2.1 ∈ am_tbl ∧ Cond.initialized M2.1.cls ∈ am_tbl ∧ Cond.code M2.1 M2.2.1 M2.2.2.1 M2.2.2.2 ∈ am_tbl ∧ (M2.1.cls ≠ "java/lang/invoke/MethodHandle" ∧ M2.1.cls ≠ "java/lang/invoke/VarHandle" ∧ (parseMethodDescriptor M2.1.desc).map (fun d => d.parameters.length) = some n)
def al_ug (g : Nat → Option Nat) (i r : Nat) : Nat → Option Nat := fun j => if j = i then some r else g j
theorem al_ws_set {dA : Nat → ClassId} {φ : Nat → Nat} {w : List al_C} {k : Nat} {x : al_C} (hk : k < w.length) : (al_ws dA φ w).set k (φ k, al_E dA φ x) = al_ws dA φ (w.set k x) := by
  apply List.ext_getElem?
  intro i
  by_cases hi : i = k
  · subst hi
    rw [List.getElem?_set_self (by rw [al_ws_len]; exact hk), al_ws_get (x := x) (List.getElem?_set_self hk)]
  · rw [List.getElem?_set_ne (Ne.symm hi)]
    unfold al_ws
    rw [List.getElem?_mapIdx, List.getElem?_mapIdx, List.getElem?_set_ne (Ne.symm hi)]
theorem al_cl_set {w : List al_C} {k : Nat} {x : al_C} (hc : al_cl w) (hx : al_cb w.length x) : al_cl (w.set k x) := by
  intro y hy
  rw [List.length_set]
  rcases List.mem_or_eq_of_mem_set hy with h | h
  · exact hc y h
  · rw [h]; exact hx
section ALR
variable {G : al_G} {K : ge_K} {B : ge_B} {M : am_M} {R : Room} {pc : Nat} {lv : List (Option Value)} {st : List Value} {cells slots : Nat} {w w' : List al_C}
theorem al_new {idx ci N k : Nat} {fs : List (Nat × Int)} (hF : al_N M.1.cls idx ci N fs) (hd : decode M.2.1 pc = .ok (.new idx, 3)) (hk : w.length = k) (hw : 0 < k) (hb : k < 1000000) (hv : al_vs k lv st = true) (hw' : w ++ [.inr (ci, fs)] = w') (hc1 : cells + 1 ≤ R.cells) (hs1 : slots + N ≤ R.slots) (kk : ge_Go K (al_B G w') M R (pc + 3) lv (.ref k :: st) (cells + 1) (slots + N)) : ge_Go K (al_B G w) M R pc lv st cells slots := by
  subst hw'
  subst hk
  intro p l e D dA A h0 s m args below meth c C hO hN hA H locs ls φ hB hL
  obtain ⟨g0, hc, hP, hD, hS⟩ := hB
  obtain ⟨Cn, T, ty0, h1, h2, h3, h4, h5, h6, h7, h8⟩ := hF
  have e0 : ∀ ψ : Nat → Nat, fs.map (al_fv id) = fs.map (al_fv ψ) := fun ψ => List.map_congr_left (fun f hf => al_fv_cg (n := 0) (h8 f hf) (fun i hi => absurd hi (Nat.not_lt_zero i)))
  refine va_new (ci := ci) (fs := fs.map (al_fv id)) (C := Cn) (T := T) (N := N) (Ts := am_wd M) C.1 C.2.1 C.2.2.2.2.2.1 (fun w h => List.mem_cons_of_mem _ (h2 w h)) ty0 h3 C.2.2.2.2.1 (C.2.2.2.2.2.1 _ (List.mem_cons_of_mem _ h4)) (C.2.2.2.2.2.1 _ (List.mem_cons_of_mem _ h5)) (C.2.2.2.2.2.1 _ (List.mem_cons_of_mem _ h6)) C.2.2.2.2.2.2.2.1 hP hD hS hA h1 h7 hc1 hs1 hd (fun q H1 hP1 hD1 hS1 => ?_)
  have hag := al_up_ag (φ := φ) (q := q) hb
  have h := kk p l e D dA A h0 s m args below meth c C hO hN hA H1 locs ls (al_up φ w.length q) (al_ext g0 hc hw hb (fun f hf => by have := h8 f hf; omega) (by show (Sum.inr (ci, fs.map (al_fv id)) : va_E) = Sum.inr (ci, fs.map (al_fv (al_up φ w.length q))); rw [e0 (al_up φ w.length q)]) hP1 hD1 hS1) (al_Ls_cg hv hag hL)
  rw [List.map_cons, al_st_cg hv hag, show am_v (al_up φ w.length q) (.ref w.length) = .ref q by show Value.ref _ = _; rw [al_up_eq]] at h
  exact h
theorem al_newarr {aty : ArrayType} {ty : FieldType} {t n k : Nat} (hty : newarray.typeOf aty = ty) (ht : ∀ dA : Nat → ClassId, (am_tys dA)[t]? = some (dA t, ty)) (hra : ∀ (U : State) (cA : ClassId), va_RA U cA ty → U.vm.findClass ("[" ++ ty.toString) = some cA) (ha : ∀ cA : ClassId, vp_cell cA (n, .inl (fun _ => iZ 0)) = arrV cA n (fun _ => defaultValue ty)) (hw1 : Cond.arrayClass (newarray.typeOf aty) ∈ am_tbl) (hd : decode M.2.1 pc = .ok (.newarray aty, 2)) (hnb : n * componentBytes ty ≤ 536870912) (hlt : n < 2147483648) (hk : w.length = k) (hw : 0 < k) (hb : k < 1000000) (hv : al_vs k lv st = true) (hw' : w ++ [.inl (t, n, none)] = w') (hc1 : cells + 1 ≤ R.cells) (hs1 : slots + n ≤ R.slots) (kk : ge_Go K (al_B G w') M R (pc + 2) lv (.ref k :: st) (cells + 1) (slots + n)) : ge_Go K (al_B G w) M R pc lv (.int (iZ (n : Int)) :: st) cells slots := by
  subst hw'
  subst hk
  intro p l e D dA A h0 s m args below meth c C hO hN hA H locs ls φ hB hL
  obtain ⟨g0, hc, hP, hD, hS⟩ := hB
  have hnR : inR (n : Int) := ⟨by omega, by omega⟩
  refine va_newa (atype := aty) (a0 := (n, .inl (fun _ => iZ 0))) C.1 C.2.1 (C.2.2.2.2.2.1 _ (List.mem_cons_of_mem _ hw1)) hty C.2.2.2.2.2.2.2.1 hP hD hS hA ha (iZ_nn (by omega)) (by rw [iZ_clamp hnR, Int.toNat_natCast]) hnb hc1 hs1 hd (fun q cA H1 hK1 hP1 hD1 hS1 => ?_)
  have r1 := hra _ _ (hK1.2 3 (cA, ty) rfl).2
  have r2 := hra _ _ (C.2.2.2.2.2.2.2.1.2 t (dA t, ty) (ht dA)).2
  have e1 : cA = dA t := Option.some.inj (r1.symm.trans r2)
  subst e1
  have hag := al_up_ag (φ := φ) (q := q) hb
  have h := kk p l e D dA A h0 s m args below meth c C hO hN hA H1 locs ls (al_up φ w.length q) (al_ext g0 hc hw hb (x := .inl (t, n, none)) trivial rfl hP1 hD1 hS1) (al_Ls_cg hv hag hL)
  rw [List.map_cons, al_st_cg hv hag, show am_v (al_up φ w.length q) (.ref w.length) = .ref q by show Value.ref _ = _; rw [al_up_eq]] at h
  exact h
theorem al_newi {n k : Nat} (hw1 : Cond.arrayClass .int ∈ am_tbl) (hd : decode M.2.1 pc = .ok (.newarray .int, 2)) (hnb : n * 4 ≤ 536870912) (hk : w.length = k) (hw : 0 < k) (hb : k < 1000000) (hv : al_vs k lv st = true) (hw' : w ++ [.inl (0, n, none)] = w') (hc1 : cells + 1 ≤ R.cells) (hs1 : slots + n ≤ R.slots) (kk : ge_Go K (al_B G w') M R (pc + 2) lv (.ref k :: st) (cells + 1) (slots + n)) : ge_Go K (al_B G w) M R pc lv (.int (iZ (n : Int)) :: st) cells slots :=
  al_newarr (aty := .int) (ty := .int) (t := 0) rfl (fun _ => rfl) (fun _ _ h => h) (fun _ => rfl) hw1 hd hnb (by omega) hk hw hb hv hw' hc1 hs1 kk
theorem al_newz {n k : Nat} (hw1 : Cond.arrayClass .boolean ∈ am_tbl) (hd : decode M.2.1 pc = .ok (.newarray .boolean, 2)) (hnb : n * 1 ≤ 536870912) (hk : w.length = k) (hw : 0 < k) (hb : k < 1000000) (hv : al_vs k lv st = true) (hw' : w ++ [.inl (1, n, none)] = w') (hc1 : cells + 1 ≤ R.cells) (hs1 : slots + n ≤ R.slots) (kk : ge_Go K (al_B G w') M R (pc + 2) lv (.ref k :: st) (cells + 1) (slots + n)) : ge_Go K (al_B G w) M R pc lv (.int (iZ (n : Int)) :: st) cells slots :=
  al_newarr (aty := .boolean) (ty := .boolean) (t := 1) rfl (fun _ => rfl) (fun _ _ h => h) (fun _ => rfl) hw1 hd hnb (by omega) hk hw hb hv hw' hc1 hs1 kk
theorem al_newq {n k idx : Nat} (hL : Cond.classLink M.1.cls idx RX1 ∈ am_tbl) (hd : decode M.2.1 pc = .ok (.anewarray idx, 3)) (hnb : n * 4 ≤ 536870912) (hk : w.length = k) (hw : 0 < k) (hb : k < 1000000) (hv : al_vs k lv st = true) (hw' : w ++ [.inl (2, n, some (fun _ => none))] = w') (hc1 : cells + 1 ≤ R.cells) (hs1 : slots + n ≤ R.slots) (kk : ge_Go K (al_B G w') M R (pc + 3) lv (.ref k :: st) (cells + 1) (slots + n)) : ge_Go K (al_B G w) M R pc lv (.int (iZ (n : Int)) :: st) cells slots := by
  subst hw'
  subst hk
  intro p l e D dA A h0 s m args below meth c C hO hN hA H locs ls φ hB hL0
  obtain ⟨g0, hc, hP, hD, hS⟩ := hB
  have hnR : inR (n : Int) := ⟨by omega, by omega⟩
  refine va_newq (C := RX1) C.1 C.2.1 C.2.2.2.2.1 (C.2.2.2.2.2.1 _ (List.mem_cons_of_mem _ hL)) hO C.2.2.2.2.2.2.2.1 hP hD hS hA (iZ_nn (by omega)) (by rw [iZ_clamp hnR, Int.toNat_natCast]) hnb hc1 hs1 hd (fun q cA H1 hK1 hP1 hD1 hS1 => ?_)
  obtain ⟨_, _, _, _, _, r1⟩ := (hK1.2 3 (cA, .object RX1) rfl).2
  obtain ⟨_, _, _, _, _, r2⟩ := (C.2.2.2.2.2.2.2.1.2 2 (dA 2, .object RX1) rfl).2
  have e1 : cA = dA 2 := Option.some.inj (r1.symm.trans r2)
  subst e1
  have hag := al_up_ag (φ := φ) (q := q) hb
  have h := kk p l e D dA A h0 s m args below meth c C hO hN hA H1 locs ls (al_up φ w.length q) (al_ext g0 hc hw hb (x := .inl (2, n, some (fun _ => none))) (fun _ _ z => nomatch z) rfl hP1 hD1 hS1) (al_Ls_cg hv hag hL0)
  rw [List.map_cons, al_st_cg hv hag, show am_v (al_up φ w.length q) (.ref w.length) = .ref q by show Value.ref _ = _; rw [al_up_eq]] at h
  exact h
theorem al_setB {D : va_G} {dA : Nat → ClassId} {A : Nat → Prop} {h0 ci j k : Nat} {s : State} {args : Array Value} {φ : Nat → Nat} {H1 : Heap} {locs : List Loc} {fs : List (Nat × Int)} {f : Nat × Int} {v : Value} (g0 : φ 0 = h0 ∧ G s args A (φ 1000000)) (hc : al_cl w) (hk : w[k]? = some (.inr (ci, fs))) (hf : f.1 < w.length + 3) (hv : al_fv φ f = v) (hP1 : va_P D am_cl ((al_ws dA φ w).set k (φ k, .inr (ci, (fs.map (al_fv φ)).set j v))) H1) (hD1 : va_D A ((al_ws dA φ w).set k (φ k, .inr (ci, (fs.map (al_fv φ)).set j v)))) (hS1 : va_S A s.heap H1 locs) : al_B G (w.set k (.inr (ci, fs.set j f))) D dA A h0 s args φ H1 locs := by
  have hkl := (List.getElem?_eq_some_iff.mp hk).1
  have e1 : (al_ws dA φ w).set k (φ k, .inr (ci, (fs.map (al_fv φ)).set j v)) = al_ws dA φ (w.set k (.inr (ci, fs.set j f))) := by
    rw [← al_ws_set hkl]
    show _ = (al_ws dA φ w).set k (φ k, Sum.inr (ci, (fs.set j f).map (al_fv φ)))
    rw [List.map_set, hv]
  rw [e1] at hP1 hD1
  refine ⟨g0, al_cl_set hc (fun f' hf' => ?_), hP1, hD1, hS1⟩
  rcases List.mem_or_eq_of_mem_set hf' with h | h
  · exact hc _ (List.mem_of_getElem? hk) f' h
  · rw [h]; exact hf
theorem al_putF {idx ci j k r : Nat} {ty : FieldType} {fs : List (Nat × Int)} (hF : am_F M.1.cls idx ci j ty true) (hdc : ∀ (C : String) (T : u_T) (N : Nat), am_cl[ci]? = some (C, T, N) → (T j).1 = M.1.cls) (hin : M.1.name = "<init>") (hd : decode M.2.1 pc = .ok (.putfield idx, 3)) (hk : w[k]? = some (.inr (ci, fs))) (hj : j < fs.length) (hr : r < w.length) (hfit : ∀ a, am_fit ty (.ref a)) (hw' : w.set k (.inr (ci, fs.set j (r + 3, 0))) = w') (kk : ge_Go K (al_B G w') M R (pc + 3) lv st cells slots) : ge_Go K (al_B G w) M R pc lv (.ref r :: .ref k :: st) cells slots := by
  subst hw'
  intro p l e D dA A h0 s m args below meth c C hO hN hA H locs ls φ hB hL
  obtain ⟨g0, hc, hP, hD, hS⟩ := hB
  obtain ⟨Cn, T, N, ty0, h1, h2, h3, h4, h5, h6, h7, h8⟩ := hF
  refine va_putF (ci := ci) (v := .ref (φ r)) (C := Cn) (T := T) (N := N) (Ts := am_wd M) C.1 C.2.1 C.2.2.2.2.2.1 (fun w h => List.mem_cons_of_mem _ (h3 w h)) ty0 h4 h5 C.2.2.2.2.1 C.2.2.2.2.2.2.2.1 hP hD hS k (al_ws_get hk) h1 j h2 (C.2.2.2.2.2.1 _ (List.mem_cons_of_mem _ h6)) (fun _ h => h) h8 (hN hin) (hdc Cn T N h1) ((h4 j h2).trans (congrArg some h7)) (hfit _).1 (hfit _).2 (by rw [List.length_map]; exact hj) hd (fun H1 locs1 hP1 hD1 hS1 => ?_)
  exact kk p l e D dA A h0 s m args below meth c C hO hN hA H1 locs1 ls φ (al_setB g0 hc hk (f := (r + 3, 0)) (by simp only []; omega) rfl hP1 hD1 hS1) hL
theorem al_put {idx ci j k : Nat} {ty : FieldType} {fs : List (Nat × Int)} {f : Nat × Int} {v : Value} (hF : am_F M.1.cls idx ci j ty false) (hd : decode M.2.1 pc = .ok (.putfield idx, 3)) (hk : w[k]? = some (.inr (ci, fs))) (hj : j < fs.length) (hf : f.1 < 2) (hv : ∀ φ, al_fv φ f = am_v φ v) (hfit : ∀ φ, am_fit ty (am_v φ v)) (hw' : w.set k (.inr (ci, fs.set j f)) = w') (kk : ge_Go K (al_B G w') M R (pc + 3) lv st cells slots) : ge_Go K (al_B G w) M R pc lv (v :: .ref k :: st) cells slots := by
  subst hw'
  intro p l e D dA A h0 s m args below meth c C hO hN hA H locs ls φ hB hL
  obtain ⟨g0, hc, hP, hD, hS⟩ := hB
  obtain ⟨Cn, T, N, ty0, h1, h2, h3, h4, h5, h6, h7, h8⟩ := hF
  refine va_put (ci := ci) (v := am_v φ v) (C := Cn) (T := T) (N := N) (Ts := am_wd M) C.1 C.2.1 C.2.2.2.2.2.1 (fun w h => List.mem_cons_of_mem _ (h3 w h)) ty0 h4 h5 C.2.2.2.2.1 C.2.2.2.2.2.2.2.1 hP hD hS k (al_ws_get hk) h1 j h2 (C.2.2.2.2.2.1 _ (List.mem_cons_of_mem _ h6)) (fun _ h => h) h8 ((h4 j h2).trans (congrArg some h7)) (hfit φ).1 (hfit φ).2 (by rw [List.length_map]; exact hj) hd (fun H1 locs1 hP1 hD1 hS1 => ?_)
  exact kk p l e D dA A h0 s m args below meth c C hO hN hA H1 locs1 ls φ (al_setB g0 hc hk (f := f) (by omega) (hv φ) hP1 hD1 hS1) hL
theorem al_getr {idx ci j k r : Nat} {v : Int} {ty : FieldType} {fin : Bool} {fs : List (Nat × Int)} (hF : am_F M.1.cls idx ci j ty fin) (hd : decode M.2.1 pc = .ok (.getfield idx, 3)) (hk : w[k]? = some (.inr (ci, fs))) (hj : fs[j]? = some (r + 3, v)) (kk : ge_Go K (al_B G w) M R (pc + 3) lv (.ref r :: st) cells slots) : ge_Go K (al_B G w) M R pc lv (.ref k :: st) cells slots := by
  intro p l e D dA A h0 s m args below meth c C hO hN hA H locs ls φ hB hL
  have hB0 := hB
  obtain ⟨g0, hc, hP, hD, hS⟩ := hB
  obtain ⟨Cn, T, N, ty0, h1, h2, h3, h4, h5, h6, h7, h8⟩ := hF
  exact va_get (ci := ci) (v := .ref (φ r)) (C := Cn) (T := T) (N := N) (Ts := am_wd M) C.1 C.2.1 C.2.2.2.2.2.1 (fun w h => List.mem_cons_of_mem _ (h3 w h)) C.2.2.2.2.1 C.2.2.2.2.2.2.2.1 hP k (al_ws_get hk) h1 j h2 (C.2.2.2.2.2.1 _ (List.mem_cons_of_mem _ h6)) (fun _ h => h) (by rw [List.getElem?_map, hj]; rfl) hd (kk p l e D dA A h0 s m args below meth c C hO hN hA H locs ls φ hB0 hL)
theorem al_aast {k r n : Nat} {i : Int} {g : Nat → Option Nat} {fs : List (Nat × Int)} (hd : decode M.2.1 pc = .ok (.aastore, 1)) (hk : w[k]? = some (.inl (2, n, some g))) (hr : w[r]? = some (.inr (1, fs))) (h0 : 0 ≤ i) (h1 : i < n) (hn : n < 2147483648) (hw' : w.set k (.inl (2, n, some (al_ug g i.toNat r))) = w') (kk : ge_Go K (al_B G w') M R (pc + 1) lv st cells slots) : ge_Go K (al_B G w) M R pc lv (.ref r :: .int (iZ i) :: .ref k :: st) cells slots := by
  subst hw'
  intro p l e D dA A h0' s m args below meth c C hO hN hA H locs ls φ hB hL
  obtain ⟨g0, hc, hP, hD, hS⟩ := hB
  have hkl := (List.getElem?_eq_some_iff.mp hk).1
  have hrl := (List.getElem?_eq_some_iff.mp hr).1
  have hiR : inR i := ⟨by omega, by omega⟩
  refine va_astq C.1 C.2.1 C.2.2.2.2.2.2.2.1 hP hD hS k 2 r 1 (r := (RX1, TX1, 2)) (f := fun i => (g i).map φ) (n := n) (al_ws_get hk) rfl (al_ws_get hr) rfl (iZ_in h0 h1 hn) hd (fun H1 locs1 hP1 hD1 hS1 => ?_)
  have e0 : va_up (fun i => (g i).map φ) (iZ i).toNatClampNeg (some (φ r)) = fun j => (al_ug g i.toNat r j).map φ := by
    rw [iZ_clamp hiR]
    funext j
    unfold va_up al_ug
    by_cases hj : j = i.toNat
    · rw [if_pos hj, if_pos hj]; rfl
    · rw [if_neg hj, if_neg hj]
  rw [e0] at hP1 hD1
  have e1 : (al_ws dA φ w).set k (φ k, Sum.inl (dA 2, n, Sum.inr (Sum.inr (Sum.inr (Sum.inr (fun j => (al_ug g i.toNat r j).map φ)))))) = al_ws dA φ (w.set k (.inl (2, n, some (al_ug g i.toNat r)))) := al_ws_set (x := .inl (2, n, some (al_ug g i.toNat r))) hkl
  rw [e1] at hP1 hD1
  refine kk p l e D dA A h0' s m args below meth c C hO hN hA H1 locs1 ls φ ⟨g0, al_cl_set hc (fun j q hq => ?_), hP1, hD1, hS1⟩ hL
  unfold al_ug at hq
  by_cases hj : j = i.toNat
  · rw [if_pos hj] at hq
    rw [← Option.some.inj hq]; exact hrl
  · rw [if_neg hj] at hq
    exact hc _ (List.mem_of_getElem? hk) j q hq
theorem al_ini {idx r : Nat} (hL : Cond.methodLink M.1.cls idx objectInit ∈ am_tbl) (hi : Cond.instanceMethod objectInit ∈ am_tbl) (hcd : Cond.code objectInit ⟨#[0xb1]⟩ 1 none ∈ am_tbl) (hd : decode M.2.1 pc = .ok (.invokespecial idx, 3)) (hf : 1 ≤ R.frames) (hl : (st.map fun v => v.category).sum + 12 ≤ R.locals) (kk : ge_Go K B M R (pc + 3) lv st cells slots) : ge_Go K B M R pc lv (.ref r :: st) cells slots := by
  intro p l e D dA A h0 s m args below meth c C hO hN hA H locs ls φ hB hL0
  refine W.objInit C.1 C.2.1 C.2.2.2.2.1 (C.2.2.2.2.2.1 _ (List.mem_cons_of_mem _ hL)) (C.2.2.2.2.2.1 _ (List.mem_cons_of_mem _ hi)) (C.2.2.2.2.2.1 _ (List.mem_cons_of_mem _ hcd)) (g := F0 m pc ls ((.ref r :: st).map (am_v φ))) (rest := st.map (am_v φ)) rfl (by rw [C.2.2.2.1]; exact hL0.1) rfl hd hf (by rw [am_sum]; show 2 * 0 + _ + 12 ≤ _; omega) ?_
  exact W.eq (g2 := F0 m (pc + 3) ls (st.map (am_v φ))) rfl (kk p l e D dA A h0 s m args below meth c C hO hN hA H locs ls φ hB hL0)
theorem al_max {idx n : Nat} (hL : Cond.methodLink M.1.cls idx Lib.Math.max.name ∈ am_tbl) (h1 : Cond.static Lib.Math.max.name ∈ am_tbl) (h2 : Cond.initialized "java/lang/Math" ∈ am_tbl) (h3 : Cond.code Lib.Math.max.name Lib.Math.max.code 2 (some .int) ∈ am_tbl) (hd : decode M.2.1 pc = .ok (.invokestatic idx, 3)) (hn : n < 2147483648) (hf : 1 ≤ R.frames) (hl : (st.map fun v => v.category).sum + 13 ≤ R.locals) (hc : cells ≤ R.cells) (hs : slots ≤ R.slots) (kk : ge_Go K B M R (pc + 3) lv (.int (iZ (n : Int)) :: st) cells slots) : ge_Go K B M R pc lv (.int (iZ (n : Int)) :: .int (iZ 0) :: st) cells slots := by
  intro p l e D dA A h0 s m args below meth c C hO hN hA H locs ls φ hB hL0
  have hnR : inR (n : Int) := ⟨by omega, by omega⟩
  refine va_mmax C.1 C.2.1 (C.2.2.2.1.trans hL0.1.symm) C.2.2.2.2.1 (C.2.2.2.2.2.1 _ (List.mem_cons_of_mem _ hL)) (C.2.2.2.2.2.1 _ (List.mem_cons_of_mem _ h1)) (C.2.2.2.2.2.1 _ (List.mem_cons_of_mem _ h2)) (C.2.2.2.2.2.1 _ (List.mem_cons_of_mem _ h3)) hf (by rw [am_sum]; exact hl) hc hs hd ?_
  have e0 : (if iZ 0 < iZ (n : Int) then iZ (n : Int) else iZ 0) = iZ (n : Int) := by
    by_cases hz : n = 0
    · subst hz; split <;> rfl
    · rw [if_pos ((iZ_lt ⟨by omega, by omega⟩ hnR).mpr (by omega))]
  rw [e0]
  exact kk p l e D dA A h0 s m args below meth c C hO hN hA H locs ls φ hB hL0
theorem al_ret (hd : decode M.2.1 pc = .ok (.return_, 1)) (hr : M.2.2.2 = none) : ge_Go (al_Kc cells slots w) (al_B G w) M R pc lv [] cells slots := by
  intro p l e D dA A h0 s m args below meth c C hO hN hA H locs ls φ hB hL
  obtain ⟨g0, hc, hP, hD, hS⟩ := hB
  exact W.vret C.1 C.2.1 (C.2.2.1.trans hr) (fun t ht hW => ⟨⟨φ, rfl, ⟨g0.1, hc⟩, by rw [ht]; exact hP, hD⟩, hS.F ht⟩) hS.2.2 hd C.2.2.2.2.2.2.1
end ALR
