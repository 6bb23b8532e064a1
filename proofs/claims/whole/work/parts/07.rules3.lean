/-! ===== rows: fields and arrays ===== -/
def am_si (σ : am_St) (k j : Nat) (v : Int) : am_St := (fun a b => if a = k ∧ b = j then v else σ.1 a b, σ.2.1, σ.2.2)
def am_sl (σ : am_St) (k j : Nat) (v : Int) : am_St := (σ.1, fun a b => if a = k ∧ b = j then v else σ.2.1 a b, σ.2.2)
def am_sa (σ : am_St) (k : Nat) (i v : Int) : am_St := (σ.1, σ.2.1, fun a b => if a = k ∧ b = i then v else σ.2.2 a b)
def am_F (own : String) (idx ci j : Nat) (ty : FieldType) (fin : Bool) : Prop := ∃ (C : String) (T : u_T) (N : Nat) (ty0 : Nat → FieldType), am_cl[ci]? = some (C, T, N) ∧ j < N ∧ (∀ w ∈ u_ws C T N, w ∈ am_tbl) ∧ (∀ k, k < N → parseFieldDescriptor (T k).2.2.1 = some (ty0 k)) ∧ (∀ a, a < N → ∀ b, b < N → a ≠ b → (T a).2.1 ≠ (T b).2.1) ∧ Cond.fieldLink own idx (T j).1 (T j).2.1 (T j).2.2.1 ∈ am_tbl ∧ ty0 j = ty ∧ (T j).2.2.2 = fin
def am_fit (ty : FieldType) (v : Value) : Prop := narrow ty v = v ∧ fits ty v = true
theorem am_fit_int {x : Int32} : am_fit .int (.int x) := ⟨rfl, rfl⟩
theorem am_fit_long {x : Int64} : am_fit .long (.long x) := ⟨rfl, rfl⟩
theorem am_fit_bool {a : Int} (h : a = 0 ∨ a = 1) : am_fit .boolean (.int (iZ a)) := by rcases h with rfl | rfl <;> exact ⟨rfl, rfl⟩
theorem am_ws_set {dA : Nat → ClassId} {φ : Nat → Nat} {σ σ' : am_St} {sh : am_Sh} {k : Nat} {x : am_Sc} (hk : sh[k]? = some x) (ho : ∀ a, a ≠ k → ∀ y, am_E dA φ σ' a y = am_E dA φ σ a y) {E' : va_E} (hE : E' = am_E dA φ σ' k x) : (am_ws dA φ σ sh).set k (φ k, E') = am_ws dA φ σ' sh := by
  apply List.ext_getElem?
  intro i
  by_cases hi : i = k
  · subst hi
    have h1 : i < (am_ws dA φ σ sh).length := by unfold am_ws; rw [List.length_mapIdx]; exact (List.getElem?_eq_some_iff.mp hk).1
    rw [List.getElem?_set_self h1, am_ws_get hk, hE]
  · rw [List.getElem?_set_ne (Ne.symm hi)]
    unfold am_ws
    rw [List.getElem?_mapIdx, List.getElem?_mapIdx]
    cases sh[i]? with
    | none => rfl
    | some y => show some (φ i, _) = some (φ i, _); rw [ho i hi y]
theorem am_E_si {dA : Nat → ClassId} {φ : Nat → Nat} {σ : am_St} {k j : Nat} {v : Int} (a : Nat) (ha : a ≠ k) (y : am_Sc) : am_E dA φ (am_si σ k j v) a y = am_E dA φ σ a y := by
  rcases y with ⟨t, n, _ | g⟩ | ⟨ci, ks⟩
  · rfl
  · rfl
  · show Sum.inr (ci, _) = Sum.inr (ci, _)
    congr 2
    apply List.ext_getElem?
    intro i
    rw [List.getElem?_mapIdx, List.getElem?_mapIdx]
    cases ks[i]? with
    | none => rfl
    | some kd => rcases kd with _ | _ | _ | r <;> simp [am_fv, am_si, ha]
theorem am_E_sl {dA : Nat → ClassId} {φ : Nat → Nat} {σ : am_St} {k j : Nat} {v : Int} (a : Nat) (ha : a ≠ k) (y : am_Sc) : am_E dA φ (am_sl σ k j v) a y = am_E dA φ σ a y := by
  rcases y with ⟨t, n, _ | g⟩ | ⟨ci, ks⟩
  · rfl
  · rfl
  · show Sum.inr (ci, _) = Sum.inr (ci, _)
    congr 2
    apply List.ext_getElem?
    intro i
    rw [List.getElem?_mapIdx, List.getElem?_mapIdx]
    cases ks[i]? with
    | none => rfl
    | some kd => rcases kd with _ | _ | _ | r <;> simp [am_fv, am_sl, ha]
theorem am_E_sa {dA : Nat → ClassId} {φ : Nat → Nat} {σ : am_St} {k : Nat} {i v : Int} (a : Nat) (ha : a ≠ k) (y : am_Sc) : am_E dA φ (am_sa σ k i v) a y = am_E dA φ σ a y := by
  rcases y with ⟨t, n, _ | g⟩ | ⟨ci, ks⟩
  · show Sum.inl (dA t, n, Sum.inl _) = Sum.inl (dA t, n, Sum.inl _)
    simp [am_sa, ha]
  · rfl
  · rfl
theorem am_fs_get {φ : Nat → Nat} {σ : am_St} {k j kd : Nat} {ks : List Nat} (h : ks[j]? = some kd) : (ks.mapIdx (fun j kd => am_fv φ σ k j kd))[j]? = some (am_fv φ σ k j kd) := by
  rw [List.getElem?_mapIdx, h]; rfl
/-- a field is set: the list of the fields' values -/
theorem am_fs_set {φ : Nat → Nat} {σ σ' : am_St} {k j kd : Nat} {ks : List Nat} {v : Value} (hj : ks[j]? = some kd) (ho : ∀ i, i ≠ j → ∀ kd, am_fv φ σ' k i kd = am_fv φ σ k i kd) (hv : v = am_fv φ σ' k j kd) : (ks.mapIdx (fun j kd => am_fv φ σ k j kd)).set j v = ks.mapIdx (fun j kd => am_fv φ σ' k j kd) := by
  apply List.ext_getElem?
  intro i
  by_cases hi : i = j
  · subst hi
    rw [List.getElem?_set_self (by rw [List.length_mapIdx]; exact (List.getElem?_eq_some_iff.mp hj).1), am_fs_get hj, hv]
  · rw [List.getElem?_set_ne (Ne.symm hi), List.getElem?_mapIdx, List.getElem?_mapIdx]
    cases ks[i]? with
    | none => rfl
    | some kd => exact congrArg some (ho i hi kd).symm
theorem am_fv_si {φ : Nat → Nat} {σ : am_St} {k j : Nat} {v : Int} (i : Nat) (hi : i ≠ j) (kd : Nat) : am_fv φ (am_si σ k j v) k i kd = am_fv φ σ k i kd := by
  rcases kd with _ | _ | _ | r <;> simp [am_fv, am_si, hi]
theorem am_fv_sl {φ : Nat → Nat} {σ : am_St} {k j : Nat} {v : Int} (i : Nat) (hi : i ≠ j) (kd : Nat) : am_fv φ (am_sl σ k j v) k i kd = am_fv φ σ k i kd := by
  rcases kd with _ | _ | _ | r <;> simp [am_fv, am_sl, hi]
section AMT
variable {sh : am_Sh} {M : am_M} {d : Nat} {Q : Option Value → am_St → Prop} {pc : Nat} {lv : List (Option Value)} {st : List Value} {σ : am_St}
theorem go_get {idx ci j k kd : Nat} {ty : FieldType} {fin : Bool} {ks : List Nat} {v : Value} (hF : am_F M.1.cls idx ci j ty fin) (hd : decode M.2.1 pc = .ok (.getfield idx, 3)) (hk : sh[k]? = some (.inr (ci, ks))) (hj : ks[j]? = some kd) (hv : ∀ φ, am_fv φ σ k j kd = am_v φ v) (kk : am_Go sh M d Q (pc + 3) lv (v :: st) σ) : am_Go sh M d Q pc lv (.ref k :: st) σ := by
  intro p l e D dA z φ s m args below meth c C H locs ls hP hS hL
  obtain ⟨Cn, T, N, ty0, h1, h2, h3, h4, h5, h6, h7, h8⟩ := hF
  exact va_get (ci := ci) (v := am_v φ v) (C := Cn) (T := T) (N := N) (Ts := am_wd M) C.1 C.2.1 C.2.2.2.2.2.1 (fun w h => List.mem_cons_of_mem _ (h3 w h)) C.2.2.2.2.1 C.2.2.2.2.2.2.2.1 hP.1 k (am_ws_get hk) h1 j h2 (C.2.2.2.2.2.1 _ (List.mem_cons_of_mem _ h6)) (fun _ h => h) ((am_fs_get hj).trans (congrArg some (hv φ))) hd (kk p l e D dA z φ s m args below meth c C H locs ls hP hS hL)
theorem go_geti {idx ci j k : Nat} {ty : FieldType} {fin : Bool} {ks : List Nat} (hF : am_F M.1.cls idx ci j ty fin) (hd : decode M.2.1 pc = .ok (.getfield idx, 3)) (hk : sh[k]? = some (.inr (ci, ks))) (hj : ks[j]? = some 0) (kk : am_Go sh M d Q (pc + 3) lv (.int (iZ (σ.1 k j)) :: st) σ) : am_Go sh M d Q pc lv (.ref k :: st) σ := go_get hF hd hk hj (fun _ => rfl) kk
theorem go_getl {idx ci j k : Nat} {ty : FieldType} {fin : Bool} {ks : List Nat} (hF : am_F M.1.cls idx ci j ty fin) (hd : decode M.2.1 pc = .ok (.getfield idx, 3)) (hk : sh[k]? = some (.inr (ci, ks))) (hj : ks[j]? = some 1) (kk : am_Go sh M d Q (pc + 3) lv (.long (lZ (σ.2.1 k j)) :: st) σ) : am_Go sh M d Q pc lv (.ref k :: st) σ := go_get hF hd hk hj (fun _ => rfl) kk
theorem go_getr {idx ci j k r : Nat} {ty : FieldType} {fin : Bool} {ks : List Nat} (hF : am_F M.1.cls idx ci j ty fin) (hd : decode M.2.1 pc = .ok (.getfield idx, 3)) (hk : sh[k]? = some (.inr (ci, ks))) (hj : ks[j]? = some (r + 3)) (kk : am_Go sh M d Q (pc + 3) lv (.ref r :: st) σ) : am_Go sh M d Q pc lv (.ref k :: st) σ := go_get hF hd hk hj (fun _ => rfl) kk
theorem go_put {idx ci j k kd : Nat} {ty : FieldType} {ks : List Nat} {v : Value} {σ' : am_St} (hF : am_F M.1.cls idx ci j ty false) (hd : decode M.2.1 pc = .ok (.putfield idx, 3)) (hk : sh[k]? = some (.inr (ci, ks))) (hj : ks[j]? = some kd) (hv : ∀ φ, am_v φ v = am_fv φ σ' k j kd) (hfit : ∀ φ, am_fit ty (am_v φ v)) (ho : ∀ dA φ a, a ≠ k → ∀ y, am_E dA φ σ' a y = am_E dA φ σ a y) (ho2 : ∀ φ i, i ≠ j → ∀ kd, am_fv φ σ' k i kd = am_fv φ σ k i kd) (kk : am_Go sh M d Q (pc + 3) lv st σ') : am_Go sh M d Q pc lv (v :: .ref k :: st) σ := by
  intro p l e D dA z φ s m args below meth c C H locs ls hP hS hL
  obtain ⟨Cn, T, N, ty0, h1, h2, h3, h4, h5, h6, h7, h8⟩ := hF
  refine va_put (ci := ci) (v := am_v φ v) (C := Cn) (T := T) (N := N) (Ts := am_wd M) C.1 C.2.1 C.2.2.2.2.2.1 (fun w h => List.mem_cons_of_mem _ (h3 w h)) ty0 h4 h5 C.2.2.2.2.1 C.2.2.2.2.2.2.2.1 hP.1 hP.2 hS k (am_ws_get hk) h1 j h2 (C.2.2.2.2.2.1 _ (List.mem_cons_of_mem _ h6)) (fun _ h => h) h8 ((h4 j h2).trans (congrArg some h7)) (hfit φ).1 (hfit φ).2 (by rw [List.length_mapIdx]; exact (List.getElem?_eq_some_iff.mp hj).1) hd (fun H1 locs1 hP1 hD1 hS1 => ?_)
  have e1 : (am_ws dA φ σ sh).set k (φ k, .inr (ci, (ks.mapIdx (fun j kd => am_fv φ σ k j kd)).set j (am_v φ v))) = am_ws dA φ σ' sh := am_ws_set hk (ho dA φ) (by rw [am_fs_set hj (ho2 φ) (hv φ)]; rfl)
  rw [e1] at hP1 hD1
  exact kk p l e D dA z φ s m args below meth c C H1 locs1 ls ⟨hP1, hD1⟩ hS1 hL
theorem go_puti {idx ci j k : Nat} {ty : FieldType} {ks : List Nat} {a : Int} (hF : am_F M.1.cls idx ci j ty false) (hd : decode M.2.1 pc = .ok (.putfield idx, 3)) (hk : sh[k]? = some (.inr (ci, ks))) (hj : ks[j]? = some 0) (hfit : am_fit ty (.int (iZ a))) (kk : am_Go sh M d Q (pc + 3) lv st (am_si σ k j a)) : am_Go sh M d Q pc lv (.int (iZ a) :: .ref k :: st) σ :=
  go_put hF hd hk hj (fun φ => by simp [am_v, am_fv, am_si]) (fun _ => hfit) (fun _ _ => am_E_si) (fun _ => am_fv_si) kk
theorem go_putl {idx ci j k : Nat} {ty : FieldType} {ks : List Nat} {a : Int} (hF : am_F M.1.cls idx ci j ty false) (hd : decode M.2.1 pc = .ok (.putfield idx, 3)) (hk : sh[k]? = some (.inr (ci, ks))) (hj : ks[j]? = some 1) (hfit : am_fit ty (.long (lZ a))) (kk : am_Go sh M d Q (pc + 3) lv st (am_sl σ k j a)) : am_Go sh M d Q pc lv (.long (lZ a) :: .ref k :: st) σ :=
  go_put hF hd hk hj (fun φ => by simp [am_v, am_fv, am_sl]) (fun _ => hfit) (fun _ _ => am_E_sl) (fun _ => am_fv_sl) kk
theorem go_iaload {k n : Nat} {i : Int} (hd : decode M.2.1 pc = .ok (.iaload, 1)) (hk : sh[k]? = some (.inl (0, n, none))) (hn : n < 2147483648) (h0 : 0 ≤ i) (h1 : i < n) (kk : am_Go sh M d Q (pc + 1) lv (.int (iZ (σ.2.2 k i)) :: st) σ) : am_Go sh M d Q pc lv (.int (iZ i) :: .ref k :: st) σ := by
  intro p l e D dA z φ s m args below meth c C H locs ls hP hS hL
  refine va_iald (n := n) C.1 C.2.1 C.2.2.2.2.2.2.2.1 hP.1 k 0 (am_ws_get hk) rfl (iZ_in h0 h1 hn) hd ?_
  have h := kk p l e D dA z φ s m args below meth c C H locs ls hP hS hL
  rw [iZ_clamp ⟨by omega, by omega⟩, Int.toNat_of_nonneg h0]
  exact h
theorem go_baload {k n : Nat} {i : Int} (hd : decode M.2.1 pc = .ok (.baload, 1)) (hk : sh[k]? = some (.inl (1, n, none))) (hn : n < 2147483648) (h0 : 0 ≤ i) (h1 : i < n) (kk : am_Go sh M d Q (pc + 1) lv (.int (iZ (σ.2.2 k i)) :: st) σ) : am_Go sh M d Q pc lv (.int (iZ i) :: .ref k :: st) σ := by
  intro p l e D dA z φ s m args below meth c C H locs ls hP hS hL
  refine va_zald (n := n) C.1 C.2.1 C.2.2.2.2.2.2.2.1 hP.1 k 1 (am_ws_get hk) rfl (iZ_in h0 h1 hn) hd ?_
  have h := kk p l e D dA z φ s m args below meth c C H locs ls hP hS hL
  rw [iZ_clamp ⟨by omega, by omega⟩, Int.toNat_of_nonneg h0]
  exact h
theorem go_aaload {k n r : Nat} {g : Nat → Option Nat} {i : Int} (hd : decode M.2.1 pc = .ok (.aaload, 1)) (hk : sh[k]? = some (.inl (2, n, some g))) (hn : n < 2147483648) (h0 : 0 ≤ i) (h1 : i < n) (hg : g i.toNat = some r) (kk : am_Go sh M d Q (pc + 1) lv (.ref r :: st) σ) : am_Go sh M d Q pc lv (.int (iZ i) :: .ref k :: st) σ := by
  intro p l e D dA z φ s m args below meth c C H locs ls hP hS hL
  refine va_aldq (n := n) C.1 C.2.1 C.2.2.2.2.2.2.2.1 hP.1 k 2 (am_ws_get hk) rfl (iZ_in h0 h1 hn) hd ?_
  have h := kk p l e D dA z φ s m args below meth c C H locs ls hP hS hL
  rw [iZ_clamp ⟨by omega, by omega⟩, hg]
  exact h
theorem am_sa_upd (σ : am_St) (k : Nat) {i : Int} (x : Int) (h0 : 0 ≤ i) : upd (fun j : Nat => iZ (σ.2.2 k (j : Int))) i.toNat (iZ x) = fun j : Nat => iZ ((am_sa σ k i x).2.2 k (j : Int)) := by
  funext j
  have h : (j : Int) = i ↔ j = i.toNat := by omega
  by_cases hj : j = i.toNat
  · simp [upd, am_sa, hj, Int.toNat_of_nonneg h0]
  · have : ¬ (j : Int) = i := fun q => hj (h.mp q)
    simp [upd, am_sa, hj, this]
theorem go_iastore {k n : Nat} {i x : Int} (hd : decode M.2.1 pc = .ok (.iastore, 1)) (hk : sh[k]? = some (.inl (0, n, none))) (hn : n < 2147483648) (h0 : 0 ≤ i) (h1 : i < n) (kk : am_Go sh M d Q (pc + 1) lv st (am_sa σ k i x)) : am_Go sh M d Q pc lv (.int (iZ x) :: .int (iZ i) :: .ref k :: st) σ := by
  intro p l e D dA z φ s m args below meth c C H locs ls hP hS hL
  refine va_iast (n := n) C.1 C.2.1 C.2.2.2.2.2.2.2.1 hP.1 hP.2 hS k 0 (am_ws_get hk) rfl (iZ_in h0 h1 hn) hd (fun H1 locs1 hP1 hD1 hS1 => ?_)
  have e1 : (am_ws dA φ σ sh).set k (φ k, .inl (dA 0, n, .inl (upd (fun j : Nat => iZ (σ.2.2 k (j : Int))) (iZ i).toNatClampNeg (iZ x)))) = am_ws dA φ (am_sa σ k i x) sh := am_ws_set hk am_E_sa (by rw [iZ_clamp ⟨by omega, by omega⟩, am_sa_upd σ k x h0]; rfl)
  rw [e1] at hP1 hD1
  exact kk p l e D dA z φ s m args below meth c C H1 locs1 ls ⟨hP1, hD1⟩ hS1 hL
theorem go_bastore {k n : Nat} {i x : Int} (hd : decode M.2.1 pc = .ok (.bastore, 1)) (hk : sh[k]? = some (.inl (1, n, none))) (hn : n < 2147483648) (h0 : 0 ≤ i) (h1 : i < n) (hx : x = 0 ∨ x = 1) (kk : am_Go sh M d Q (pc + 1) lv st (am_sa σ k i x)) : am_Go sh M d Q pc lv (.int (iZ x) :: .int (iZ i) :: .ref k :: st) σ := by
  intro p l e D dA z φ s m args below meth c C H locs ls hP hS hL
  refine va_zast (n := n) C.1 C.2.1 C.2.2.2.2.2.2.2.1 hP.1 hP.2 hS k 1 (am_ws_get hk) rfl (iZ_in h0 h1 hn) hd (fun H1 locs1 hP1 hD1 hS1 => ?_)
  have e0 : vp_nar .boolean (iZ x) = iZ x := by rcases hx with rfl | rfl <;> rfl
  have e1 : (am_ws dA φ σ sh).set k (φ k, .inl (dA 1, n, .inl (upd (fun j : Nat => iZ (σ.2.2 k (j : Int))) (iZ i).toNatClampNeg (vp_nar .boolean (iZ x))))) = am_ws dA φ (am_sa σ k i x) sh := am_ws_set hk am_E_sa (by rw [e0, iZ_clamp ⟨by omega, by omega⟩, am_sa_upd σ k x h0]; rfl)
  rw [e1] at hP1 hD1
  exact kk p l e D dA z φ s m args below meth c C H1 locs1 ls ⟨hP1, hD1⟩ hS1 hL
theorem go_alen {k t n : Nat} {g : Option (Nat → Option Nat)} (ht : t < 3) (hd : decode M.2.1 pc = .ok (.arraylength, 1)) (hk : sh[k]? = some (.inl (t, n, g))) (kk : am_Go sh M d Q (pc + 1) lv (.int (iZ (n : Int)) :: st) σ) : am_Go sh M d Q pc lv (.ref k :: st) σ := by
  intro p l e D dA z φ s m args below meth c C H locs ls hP hS hL
  have hty : ∃ ty, (am_tys dA)[t]? = some (dA t, ty) := by
    rcases (show t = 0 ∨ t = 1 ∨ t = 2 by omega) with rfl | rfl | rfl <;> exact ⟨_, rfl⟩
  obtain ⟨ty, hty⟩ := hty
  have hv : Int32.ofNat n = iZ (n : Int) := Int32.ofInt_eq_ofNat.symm
  cases g with
  | none => exact va_alen (v := iZ (n : Int)) C.1 C.2.1 C.2.2.2.2.2.2.2.1 hP.1 k t (am_ws_get hk) hty hv hd (kk p l e D dA z φ s m args below meth c C H locs ls hP hS hL)
  | some g => exact va_alen (v := iZ (n : Int)) C.1 C.2.1 C.2.2.2.2.2.2.2.1 hP.1 k t (am_ws_get hk) hty hv hd (kk p l e D dA z φ s m args below meth c C H locs ls hP hS hL)
end AMT
