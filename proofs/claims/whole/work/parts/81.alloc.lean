/-! ===== making objects: a world that grows, its cells in the order in which they come ===== -/
/-- an array (its kind, its length, what an array of references holds; numbers are 0), or an object (its kind, its fields: (0, v) int, (1, v) long, (2, _) null, (r + 3, _) the cell r) -/
abbrev al_C : Type := (Nat × Nat × Option (Nat → Option Nat)) ⊕ (Nat × List (Nat × Int))
def al_fv (φ : Nat → Nat) : Nat × Int → Value
  | (0, v) => .int (iZ v)
  | (1, v) => .long (lZ v)
  | (2, _) => .null
  | (r + 3, _) => .ref (φ r)
def al_E (dA : Nat → ClassId) (φ : Nat → Nat) : al_C → va_E
  | .inl (t, n, none) => .inl (dA t, n, .inl (fun _ => iZ 0))
  | .inl (t, n, some g) => .inl (dA t, n, .inr (.inr (.inr (.inr (fun i => (g i).map φ)))))
  | .inr (ci, fs) => .inr (ci, fs.map (al_fv φ))
def al_ws (dA : Nat → ClassId) (φ : Nat → Nat) (w : List al_C) : va_W := w.mapIdx (fun k x => (φ k, al_E dA φ x))
/-- its references are below n -/
def al_cb (n : Nat) : al_C → Prop
  | .inl (_, _, none) => True
  | .inl (_, _, some g) => ∀ i r, g i = some r → r < n
  | .inr (_, fs) => ∀ f ∈ fs, f.1 < n + 3
def al_cl (w : List al_C) : Prop := ∀ x ∈ w, al_cb w.length x
def al_ag (n : Nat) (φ φ' : Nat → Nat) : Prop := ∀ i, (i < n ∨ 1000000 ≤ i) → φ' i = φ i
def al_vb (n : Nat) : Value → Bool
  | .ref k => decide (k < n) || decide (1000000 ≤ k)
  | _ => true
def al_vo (n : Nat) : Option Value → Bool
  | some v => al_vb n v
  | none => true
def al_vs (n : Nat) (lv : List (Option Value)) (st : List Value) : Bool := lv.all (al_vo n) && st.all (al_vb n)
theorem al_fv_cg {φ φ' : Nat → Nat} {n : Nat} {f : Nat × Int} (h : f.1 < n + 3) (ha : ∀ i, i < n → φ' i = φ i) : al_fv φ' f = al_fv φ f := by
  obtain ⟨k, v⟩ := f
  rcases k with _ | _ | _ | r
  · rfl
  · rfl
  · rfl
  · show Value.ref (φ' r) = Value.ref (φ r)
    rw [ha r (by simp only [] at h; omega)]
theorem al_E_cg {dA : Nat → ClassId} {φ φ' : Nat → Nat} {n : Nat} {x : al_C} (h : al_cb n x) (ha : ∀ i, i < n → φ' i = φ i) : al_E dA φ' x = al_E dA φ x := by
  rcases x with ⟨t, k, _ | g⟩ | ⟨ci, fs⟩
  · rfl
  · have e : (fun i => (g i).map φ') = fun i => (g i).map φ := funext fun i => by
      cases hg : g i with
      | none => rfl
      | some r => show some (φ' r) = some (φ r); rw [ha r (h i r hg)]
    show (Sum.inl (dA t, k, Sum.inr (Sum.inr (Sum.inr (Sum.inr (fun i => (g i).map φ'))))) : va_E) = Sum.inl (dA t, k, Sum.inr (Sum.inr (Sum.inr (Sum.inr (fun i => (g i).map φ)))))
    rw [e]
  · have e : fs.map (al_fv φ') = fs.map (al_fv φ) := List.map_congr_left (fun f hf => al_fv_cg (h f hf) ha)
    show (Sum.inr (ci, fs.map (al_fv φ')) : va_E) = Sum.inr (ci, fs.map (al_fv φ))
    rw [e]
theorem al_cb_mono {n n' : Nat} {x : al_C} (hn : n ≤ n') (h : al_cb n x) : al_cb n' x := by
  rcases x with ⟨t, k, _ | g⟩ | ⟨ci, fs⟩
  · trivial
  · exact fun i r hg => Nat.lt_of_lt_of_le (h i r hg) hn
  · exact fun f hf => Nat.lt_of_lt_of_le (h f hf) (by omega)
theorem al_ws_get {dA : Nat → ClassId} {φ : Nat → Nat} {w : List al_C} {k : Nat} {x : al_C} (h : w[k]? = some x) : (al_ws dA φ w)[k]? = some (φ k, al_E dA φ x) := by
  unfold al_ws
  rw [List.getElem?_mapIdx, h]
  rfl
theorem al_ws_len {dA : Nat → ClassId} {φ : Nat → Nat} {w : List al_C} : (al_ws dA φ w).length = w.length := by
  unfold al_ws
  rw [List.length_mapIdx]
theorem al_ws_cg {dA : Nat → ClassId} {φ φ' : Nat → Nat} {w : List al_C} (hc : al_cl w) (ha : ∀ i, i < w.length → φ' i = φ i) : al_ws dA φ' w = al_ws dA φ w := by
  apply List.ext_getElem?
  intro i
  cases hi : w[i]? with
  | none =>
    have hl : w.length ≤ i := List.getElem?_eq_none_iff.mp hi
    rw [List.getElem?_eq_none (by rw [al_ws_len]; exact hl), List.getElem?_eq_none (by rw [al_ws_len]; exact hl)]
  | some x =>
    rw [al_ws_get hi, al_ws_get hi, ha i (List.getElem?_eq_some_iff.mp hi).1, al_E_cg (hc x (List.mem_of_getElem? hi)) ha]
theorem al_ws_snoc {dA : Nat → ClassId} {φ : Nat → Nat} {w : List al_C} {x : al_C} : al_ws dA φ (w ++ [x]) = al_ws dA φ w ++ [(φ w.length, al_E dA φ x)] := by
  unfold al_ws
  rw [List.mapIdx_concat]
def al_up (φ : Nat → Nat) (n q : Nat) : Nat → Nat := fun i => if i = n then q else φ i
theorem al_up_ag {φ : Nat → Nat} {n q : Nat} (hn : n < 1000000) : al_ag n φ (al_up φ n q) := fun i hi => if_neg (by omega)
theorem al_up_eq {φ : Nat → Nat} {n q : Nat} : al_up φ n q n = q := if_pos rfl
theorem al_v_cg {φ φ' : Nat → Nat} {n : Nat} {v : Value} (h : al_vb n v = true) (ha : al_ag n φ φ') : am_v φ' v = am_v φ v := by
  cases v with
  | ref k =>
    show Value.ref (φ' k) = Value.ref (φ k)
    rw [ha k (by simpa [al_vb] using h)]
  | _ => rfl
theorem al_st_cg {φ φ' : Nat → Nat} {n : Nat} {lv : List (Option Value)} {st : List Value} (h : al_vs n lv st = true) (ha : al_ag n φ φ') : st.map (am_v φ') = st.map (am_v φ) := by
  unfold al_vs at h
  rw [Bool.and_eq_true] at h
  exact List.map_congr_left (fun v hv => al_v_cg (List.all_eq_true.mp h.2 v hv) ha)
theorem al_Ls_cg {φ φ' : Nat → Nat} {n k : Nat} {ls : Array Slot} {lv : List (Option Value)} {st : List Value} (h : al_vs n lv st = true) (ha : al_ag n φ φ') (hL : am_Ls φ ls k lv) : am_Ls φ' ls k lv := by
  unfold al_vs at h
  rw [Bool.and_eq_true] at h
  refine ⟨hL.1, hL.2.1, fun i v hi => ?_⟩
  rw [al_v_cg (List.all_eq_true.mp h.1 (some v) (List.mem_of_getElem? hi)) ha]
  exact hL.2.2 i v hi
theorem al_cl_snoc {w : List al_C} {x : al_C} (hc : al_cl w) (hx : al_cb (w.length + 1) x) : al_cl (w ++ [x]) := by
  intro y hy
  rw [List.length_append, List.length_singleton]
  rcases List.mem_append.mp hy with h | h
  · exact al_cb_mono (by omega) (hc y h)
  · rw [List.mem_singleton.mp h]; exact hx
/-- a cell's references moved up by b -/
def al_sh (b : Nat) : al_C → al_C
  | .inl (t, n, none) => .inl (t, n, none)
  | .inl (t, n, some g) => .inl (t, n, some (fun i => (g i).map (fun r => b + r)))
  | .inr (ci, fs) => .inr (ci, fs.map (fun f => if f.1 < 3 then f else (b + f.1, f.2)))
theorem al_E_sh0 {dA : Nat → ClassId} {φ : Nat → Nat} {b : Nat} {x : al_C} : al_E dA φ (al_sh b x) = al_E dA (fun j => φ (b + j)) x := by
  rcases x with ⟨t, k, _ | g⟩ | ⟨ci, fs⟩
  · rfl
  · have e : (fun i => ((g i).map (fun r => b + r)).map φ) = fun i => (g i).map (fun j => φ (b + j)) := funext fun i => by
      cases hg : g i with
      | none => rfl
      | some r => rfl
    show (Sum.inl (dA t, k, Sum.inr (Sum.inr (Sum.inr (Sum.inr (fun i => ((g i).map (fun r => b + r)).map φ))))) : va_E) = Sum.inl (dA t, k, Sum.inr (Sum.inr (Sum.inr (Sum.inr (fun i => (g i).map (fun j => φ (b + j)))))))
    rw [e]
  · have e : (fs.map (fun f => if f.1 < 3 then f else (b + f.1, f.2))).map (al_fv φ) = fs.map (al_fv (fun j => φ (b + j))) := by
      rw [List.map_map]
      refine List.map_congr_left (fun f _ => ?_)
      obtain ⟨k, v⟩ := f
      rcases k with _ | _ | _ | r
      · rfl
      · rfl
      · rfl
      · show al_fv φ (if r + 3 < 3 then (r + 3, v) else (b + (r + 3), v)) = _
        rw [if_neg (by omega)]
        rfl
    show (Sum.inr (ci, (fs.map (fun f => if f.1 < 3 then f else (b + f.1, f.2))).map (al_fv φ)) : va_E) = Sum.inr (ci, fs.map (al_fv (fun j => φ (b + j))))
    rw [e]
theorem al_cb_sh {b n : Nat} {x : al_C} (h : al_cb n x) : al_cb (b + n) (al_sh b x) := by
  rcases x with ⟨t, k, _ | g⟩ | ⟨ci, fs⟩
  · trivial
  · intro i r hr
    have hr : (g i).map (fun r => b + r) = some r := hr
    cases hg : g i with
    | none => rw [hg] at hr; cases hr
    | some r' =>
      rw [hg] at hr
      have e : b + r' = r := Option.some.inj hr
      have := h i r' hg
      omega
  · intro f hf
    have hf : f ∈ fs.map (fun f => if f.1 < 3 then f else (b + f.1, f.2)) := hf
    obtain ⟨f', h1, h2⟩ := List.mem_map.mp hf
    have h3 := h f' h1
    by_cases h4 : f'.1 < 3
    · rw [if_pos h4] at h2
      rw [← h2]; omega
    · rw [if_neg h4] at h2
      rw [← h2]; simp only []; omega
theorem al_cl_app {w wE : List al_C} (hc : ∀ x ∈ w, al_cb (w.length + 1) x) (hE : al_cl wE) (h1 : 0 < wE.length) : al_cl (w ++ wE.map (al_sh w.length)) := by
  intro y hy
  rw [List.length_append, List.length_map]
  rcases List.mem_append.mp hy with h | h
  · exact al_cb_mono (by omega) (hc y h)
  · obtain ⟨x, h1, h2⟩ := List.mem_map.mp h
    rw [← h2]
    exact al_cb_sh (hE x h1)
def al_jn (φ ψ : Nat → Nat) (k : Nat) : Nat → Nat := fun i => if i < k ∨ 1000000 ≤ i then φ i else ψ (i - k)
theorem al_jn_ag {φ ψ : Nat → Nat} {k : Nat} (h : ψ 0 = φ k) (hk : k < 1000000) : al_ag (k + 1) φ (al_jn φ ψ k) := fun i hi => by
  unfold al_jn
  by_cases h1 : i < k ∨ 1000000 ≤ i
  · rw [if_pos h1]
  · rw [if_neg h1]
    obtain rfl : i = k := by omega
    rw [Nat.sub_self]; exact h
theorem al_ws_join {dA : Nat → ClassId} {φ ψ : Nat → Nat} {w wE : List al_C} (hψ : ψ 0 = φ w.length) (hc : ∀ x ∈ w, al_cb (w.length + 1) x) (hE : al_cl wE) (hb : w.length + wE.length < 1000000) : al_ws dA (al_jn φ ψ w.length) (w ++ wE.map (al_sh w.length)) = al_ws dA φ w ++ al_ws dA ψ wE := by
  have hag := al_jn_ag hψ (by omega)
  apply List.ext_getElem?
  intro i
  by_cases hi : i < w.length
  · rw [List.getElem?_append_left (by rw [al_ws_len]; exact hi), al_ws_get (x := w[i]) (by rw [List.getElem?_append_left hi]; exact List.getElem?_eq_getElem hi), al_ws_get (x := w[i]) (List.getElem?_eq_getElem hi), hag i (by omega), al_E_cg (hc _ (List.getElem_mem hi)) (fun j hj => hag j (Or.inl hj))]
  · rw [List.getElem?_append_right (by rw [al_ws_len]; omega), al_ws_len]
    cases hx : wE[i - w.length]? with
    | none =>
      have hl : wE.length ≤ i - w.length := List.getElem?_eq_none_iff.mp hx
      rw [List.getElem?_eq_none (by rw [al_ws_len, List.length_append, List.length_map]; omega), List.getElem?_eq_none (by rw [al_ws_len]; exact hl)]
    | some x =>
      have hl := (List.getElem?_eq_some_iff.mp hx).1
      rw [al_ws_get (x := al_sh w.length x) (by rw [List.getElem?_append_right (by omega), List.getElem?_map, hx]; rfl), al_ws_get hx, al_E_sh0]
      have e2 : al_jn φ ψ w.length i = ψ (i - w.length) := if_neg (by omega)
      rw [e2, al_E_cg (hE x (List.mem_of_getElem? hx)) (φ := ψ) (fun j hj => by
        show al_jn φ ψ w.length (w.length + j) = ψ j
        unfold al_jn
        rw [if_neg (by omega), Nat.add_sub_cancel_left])]
abbrev al_G : Type := State → Array Value → (Nat → Prop) → Nat → Prop
def al_T : al_G := fun _ _ _ _ => True
/-- the heap holds the world w; the number 1000000 stands for what G tells of -/
def al_B (G : al_G) (w : List al_C) : ge_B := fun D dA A h0 s args φ H locs => (φ 0 = h0 ∧ G s args A (φ 1000000)) ∧ al_cl w ∧ va_P D am_cl (al_ws dA φ w) H ∧ va_D A (al_ws dA φ w) ∧ va_S A s.heap H locs
/-- a constructor's end, with the world wE -/
abbrev al_Q (D : va_G) (dA : Nat → ClassId) (h0 : Nat) (A : Nat → Prop) (wE : List al_C) : Array Value → State → Outcome → State → Prop := va_Qv (fun φ : Nat → Nat => φ 0 = h0 ∧ al_cl wE) (fun φ t => va_P D am_cl (al_ws dA φ wE) t.heap ∧ va_D A (al_ws dA φ wE)) A
def al_Kc (C N : Nat) (wE : List al_C) : ge_K := fun below args s A D dA h0 => MQ below (al_Q D dA h0 A wE) args s C N A
abbrev al_room (d C N : Nat) : Room := { frames := d, cells := C, slots := N, locals := 32 * d }
abbrev al_A (dA : Nat → ClassId) (h0 sz : Nat) (x0 : al_C) : Nat → Prop := va_A [(h0, al_E dA (fun _ => h0) x0)] sz
/-- the contract of a constructor: its object is as new (x0); the world wE stands behind it; C cells of N slots come -/
def al_Ct (M : am_M) (d C N : Nat) (av : List Value) (x0 : al_C) (wE : List al_C) : Prop :=
  ∀ (l : Launch) (D : va_G) (dA : Nat → ClassId) (h0 sz : Nat), Met l M.1 (am_wd M) (al_room d C N) (va_Pc (.ref h0 :: av) (fun U => U.heap.size = sz ∧ va_P D am_cl [(h0, al_E dA (fun _ => h0) x0)] U.heap ∧ am_K D dA U ∧ va_AO RX1 U)) (al_Q D dA h0 (al_A dA h0 sz x0) wE) C N (al_A dA h0 sz x0)
