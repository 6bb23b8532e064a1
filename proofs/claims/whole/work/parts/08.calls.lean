/-! ===== rows: calls ===== -/
theorem am_good {M M2 : am_M} (hc : Cond.code M2.1 M2.2.1 M2.2.2.1 M2.2.2.2 ∈ am_tbl) : GoodIn (am_wd M) (am_wd M2) := by
  intro w hw
  have h : w ∈ am_tbl := by
    rcases List.mem_cons.mp hw with h | h
    · rw [h]; exact hc
    · exact h
  exact ⟨List.mem_cons_of_mem _ h, good_of_word (List.mem_filter.mp h).2⟩
def am_MV (M2 : am_M) (n : Nat) : Prop := Cond.instanceMethod M2.1 ∈ am_tbl ∧ Cond.selects M2.1.cls M2.1 M2.1 ∈ am_tbl ∧ Cond.initialized M2.1.cls ∈ am_tbl ∧ Cond.code M2.1 M2.2.1 M2.2.2.1 M2.2.2.2 ∈ am_tbl ∧ (M2.1.cls ≠ "java/lang/invoke/MethodHandle" ∧ M2.1.cls ≠ "java/lang/invoke/VarHandle" ∧ (parseMethodDescriptor M2.1.desc).map (fun d => d.parameters.length) = some n) ∧ M2.2.2.1 ≤ 13
def am_MS (M2 : am_M) (n : Nat) : Prop := Cond.static M2.1 ∈ am_tbl ∧ Cond.initialized M2.1.cls ∈ am_tbl ∧ Cond.code M2.1 M2.2.1 M2.2.2.1 M2.2.2.2 ∈ am_tbl ∧ (M2.1.cls ≠ "java/lang/invoke/MethodHandle" ∧ M2.1.cls ≠ "java/lang/invoke/VarHandle" ∧ (parseMethodDescriptor M2.1.desc).map (fun d => d.parameters.length) = some n) ∧ M2.2.2.1 ≤ 13
section AMC0
variable {p : Program} {l : Launch} {e : Env} {R : Room} {s : State} {m : MethodId} {args : Array Value} {below : List Frame} {meth : Method} {c : Code} {H : Heap} {locs : List Loc} {cells slots : Nat} {Q : State → Prop} {pc : Nat} {ls : Array Slot} {rest st0 : List Value} {a : Array Value} {H0 : Heap} {D : va_G} {dA : Nat → ClassId} {z : Nat} {φ : Nat → Nat} {sh : am_Sh} {Q2 : Option Value → am_St → Prop}
theorem am_call (hr : va_Run p l e R s m args below meth c H locs cells slots 0 0 (F0 m pc ls st0) rest (am_Q D dA z φ sh Q2 a) (fun q => z ≤ q)) (hS : va_S (fun q => z ≤ q) H0 H locs)
    (kk : ∀ (r : Option Value) (σ2 : am_St) (H1 : Heap) (locs1 : List Loc), Q2 r σ2 → am_P D dA z φ sh σ2 H1 → va_S (fun q => z ≤ q) H0 H1 locs1 → W p l e R s m args below meth c H1 locs1 cells slots Q (F0 m (pc + 3) ls ((r.map (am_v φ)).toList ++ rest))) : W p l e R s m args below meth c H locs cells slots Q (F0 m pc ls st0) := by
  intro T hT X
  obtain ⟨v, st₀, t, T', L, h0, X', hL, e1, e2, ⟨⟨r, σ2, hv, hq, hP2⟩, hz, hk⟩, st⟩ := hr T hT X
  cases hv
  rw [h0] at hz hk
  obtain ⟨t2, a1, b1⟩ := kk r σ2 T'.heap (locs ++ L) hq (by rw [e1]; exact hP2)
    ⟨Nat.le_trans hS.1 (by rw [e1]; exact hz), fun q h1 h2 => by rw [e1, hk q (Nat.lt_of_lt_of_le h1 hS.1) h2]; exact hS.2.1 q h1 h2, fun q hq => by
      rcases List.mem_append.mp hq with h | h
      · exact hS.2.2 q h
      · exact hL q h⟩ T' rfl X'
  exact ⟨t2, st t2 a1, b1⟩
/-- the machine's own rows of a call: a method of an object, a static one -/
theorem am_runV {Ts : List Cond} {own : String} {cc : ByteArray} {nL idx n k ci d2 : Nat} {M2 : am_M} {As : List Value} {ks : List Nat} {σ : am_St} {r0 : vw_C} (S : CallFix p m c cc nL s args Ts own) (hG : GoodIn Ts (am_wd M2)) (hK : am_K D dA s) (hL : Cond.methodLink own idx M2.1 ∈ Ts) (hi : Cond.instanceMethod M2.1 ∈ Ts) (hse : Cond.selects M2.1.cls M2.1 M2.1 ∈ Ts) (hini : Cond.initialized M2.1.cls ∈ Ts) (hdd : M2.1.cls ≠ "java/lang/invoke/MethodHandle" ∧ M2.1.cls ≠ "java/lang/invoke/VarHandle" ∧ (parseMethodDescriptor M2.1.desc).map (fun d => d.parameters.length) = some n)
    (hE : am_Ev sh M2 d2 (.ref k :: As) σ Q2) (hP : am_P D dA z φ sh σ H) (hk : sh[k]? = some (.inr (ci, ks))) (hci : am_cl[ci]? = some r0) (hcn : r0.1 = M2.1.cls) (hR : d2 + 1 ≤ R.frames ∧ 8 + (M2.2.2.1 + 11) + 32 * d2 ≤ R.locals)
    (hn : As.length = n) (hsize : ls.size = nL) (hstack : st0 = (As.map (am_v φ)).reverse ++ .ref (φ k) :: rest) (hrm : (rest.map fun v => v.category).sum ≤ 8) (hdg : decode cc pc = .ok (.invokevirtual idx, 3)) (hf : cells ≤ R.cells ∧ slots ≤ R.slots) :
    va_Run p l e R s m args below meth c H locs cells slots 0 0 (F0 m pc ls st0) rest (am_Q D dA z φ sh Q2 (Value.ref (φ k) :: As.map (am_v φ)).toArray) (fun q => z ≤ q) := by
  have hbl : FrameBlind (va_Pc ((Value.ref k :: As).map (am_v φ)) (fun U => am_P D dA z φ sh σ U.heap ∧ am_K D dA U)) := fun a U g mk q => by
    obtain ⟨q0, qP, qK⟩ := q
    exact ⟨q0, qP, qK.calling⟩
  have hb := callB_of (R := R) (own := own) (index := idx) (y := M2.1) (bytes := M2.2.1) (maxL := M2.2.2.1) (ret := M2.2.2.2) (rm := am_room d2) (mc := 0) (ms := 0) n S.2.2.2.2 hG rfl rfl rfl (S.2.2.2.2 _ hini) (S.2.2.2.2 _ hL) hdd hR
  have hrec := va_recv hK.1 hP.1 hci (am_ws_get hk)
  rw [hcn] at hrec
  exact va_runV (C := M2.1.cls) (b := φ k) (As := As.map (am_v φ)) (rest := rest) S (hE l D dA z φ) ⟨hb, S.2.2.2.2 _ hi, S.2.2.2.2 _ hse⟩ ⟨hbl, hrec, fun U hU hW => ⟨rfl, by rw [hU]; exact hP, hK.warm hW⟩⟩ rfl (by rw [List.length_map]; exact hn) hsize hstack (lv_room hrm) hdg hf
theorem am_runS {Ts : List Cond} {own : String} {cc : ByteArray} {nL idx n d2 : Nat} {M2 : am_M} {As : List Value} {σ : am_St} (S : CallFix p m c cc nL s args Ts own) (hG : GoodIn Ts (am_wd M2)) (hK : am_K D dA s) (hL : Cond.methodLink own idx M2.1 ∈ Ts) (hst : Cond.static M2.1 ∈ Ts) (hini : Cond.initialized M2.1.cls ∈ Ts) (hdd : M2.1.cls ≠ "java/lang/invoke/MethodHandle" ∧ M2.1.cls ≠ "java/lang/invoke/VarHandle" ∧ (parseMethodDescriptor M2.1.desc).map (fun d => d.parameters.length) = some n)
    (hE : am_Ev sh M2 d2 As σ Q2) (hP : am_P D dA z φ sh σ H) (hR : d2 + 1 ≤ R.frames ∧ 8 + (M2.2.2.1 + 11) + 32 * d2 ≤ R.locals)
    (hn : As.length = n) (hsize : ls.size = nL) (hstack : st0 = (As.map (am_v φ)).reverse ++ rest) (hrm : (rest.map fun v => v.category).sum ≤ 8) (hdg : decode cc pc = .ok (.invokestatic idx, 3)) (hf : cells ≤ R.cells ∧ slots ≤ R.slots) :
    va_Run p l e R s m args below meth c H locs cells slots 0 0 (F0 m pc ls st0) rest (am_Q D dA z φ sh Q2 (As.map (am_v φ)).toArray) (fun q => z ≤ q) := by
  have hbl : FrameBlind (va_Pc (As.map (am_v φ)) (fun U => am_P D dA z φ sh σ U.heap ∧ am_K D dA U)) := fun a U g mk q => by
    obtain ⟨q0, qP, qK⟩ := q
    exact ⟨q0, qP, qK.calling⟩
  have hb := callB_of (R := R) (own := own) (index := idx) (y := M2.1) (bytes := M2.2.1) (maxL := M2.2.2.1) (ret := M2.2.2.2) (rm := am_room d2) (mc := 0) (ms := 0) n S.2.2.2.2 hG rfl rfl rfl (S.2.2.2.2 _ hini) (S.2.2.2.2 _ hL) hdd hR
  exact va_runS (As := As.map (am_v φ)) (rest := rest) S (hE l D dA z φ) ⟨hb, S.2.2.2.2 _ hst⟩ ⟨hbl, fun U hU hW => ⟨rfl, by rw [hU]; exact hP, hK.warm hW⟩⟩ rfl (by rw [List.length_map]; exact hn) hsize hstack (lv_room hrm) hdg hf
theorem am_runSN {Ts : List Cond} {own host : String} {cc : ByteArray} {nL idx n d2 : Nat} {M2 : am_M} {As : List Value} {σ : am_St} (S : CallFix p m c cc nL s args Ts own) (hG : GoodIn Ts (am_wd M2)) (hK : am_K D dA s) (hL : (own, idx, M2.1, host) ∈ am_nest) (hst : Cond.static M2.1 ∈ Ts) (hini : Cond.initialized M2.1.cls ∈ Ts) (hdd : M2.1.cls ≠ "java/lang/invoke/MethodHandle" ∧ M2.1.cls ≠ "java/lang/invoke/VarHandle" ∧ (parseMethodDescriptor M2.1.desc).map (fun d => d.parameters.length) = some n)
    (hE : am_Ev sh M2 d2 As σ Q2) (hP : am_P D dA z φ sh σ H) (hR : d2 + 1 ≤ R.frames ∧ 8 + (M2.2.2.1 + 11) + 32 * d2 ≤ R.locals)
    (hn : As.length = n) (hsize : ls.size = nL) (hstack : st0 = (As.map (am_v φ)).reverse ++ rest) (hrm : (rest.map fun v => v.category).sum ≤ 8) (hdg : decode cc pc = .ok (.invokestatic idx, 3)) (hf : cells ≤ R.cells ∧ slots ≤ R.slots) :
    va_Run p l e R s m args below meth c H locs cells slots 0 0 (F0 m pc ls st0) rest (am_Q D dA z φ sh Q2 (As.map (am_v φ)).toArray) (fun q => z ≤ q) := by
  have hbl : FrameBlind (va_Pc (As.map (am_v φ)) (fun U => am_P D dA z φ sh σ U.heap ∧ am_K D dA U)) := fun a U g mk q => by
    obtain ⟨q0, qP, qK⟩ := q
    exact ⟨q0, qP, qK.calling⟩
  have hb := va_cnB (R := R) (own := own) (host := host) (index := idx) (y := M2.1) (bytes := M2.2.1) (maxL := M2.2.2.1) (ret := M2.2.2.2) (rm := am_room d2) (mc := 0) (ms := 0) n S.2.2.2.2 hG rfl rfl rfl (hK.2 _ hL) (S.2.2.2.2 _ hini) hdd hR
  exact va_runSN (As := As.map (am_v φ)) (rest := rest) S (hE l D dA z φ) ⟨hb, S.2.2.2.2 _ hst, trivial⟩ ⟨hbl, fun U hU hW => ⟨rfl, by rw [hU]; exact hP, hK.warm hW⟩⟩ rfl (by rw [List.length_map]; exact hn) hsize hstack (lv_room hrm) hdg hf
end AMC0
section AMC
variable {sh : am_Sh} {M : am_M} {d : Nat} {Q : Option Value → am_St → Prop} {pc : Nat} {lv : List (Option Value)} {st : List Value} {σ : am_St} {M2 : am_M} {d2 idx n : Nat} {Q2 : Option Value → am_St → Prop}
theorem am_sum (φ : Nat → Nat) (st : List Value) : ((st.map (am_v φ)).map fun v => v.category).sum = (st.map fun v => v.category).sum := by
  rw [List.map_map]
  congr 1
  exact List.map_congr_left (fun v _ => am_cat φ v)
theorem go_callV {k ci : Nat} {ks : List Nat} {r0 : vw_C} {As : List Value} (hd : decode M.2.1 pc = .ok (.invokevirtual idx, 3)) (hL : Cond.methodLink M.1.cls idx M2.1 ∈ am_tbl) (hM : am_MV M2 n) (hk : sh[k]? = some (.inr (ci, ks))) (hci : am_cl[ci]? = some r0) (hcn : r0.1 = M2.1.cls) (hn : As.length = n) (hr : (st.map fun v => v.category).sum ≤ 8) (hdep : d2 < d) (hE : am_Ev sh M2 d2 (.ref k :: As) σ Q2) (kk : ∀ r σ2, Q2 r σ2 → am_Go sh M d Q (pc + 3) lv (r.toList ++ st) σ2) : am_Go sh M d Q pc lv (As.reverse ++ .ref k :: st) σ := by
  intro p l e D dA z φ s m args below meth c C H locs ls hP hS hl
  obtain ⟨hM1, hM2, hM3, hM4, hM5, hM6⟩ := hM
  refine am_call (am_runV (Ts := am_wd M) (own := M.1.cls) (As := As) ⟨C.1, C.2.1, C.2.2.2.1, C.2.2.2.2.1, C.2.2.2.2.2.1⟩ (am_good hM4) C.2.2.2.2.2.2.2 (List.mem_cons_of_mem _ hL) (List.mem_cons_of_mem _ hM1) (List.mem_cons_of_mem _ hM2) (List.mem_cons_of_mem _ hM3) hM5 hE hP hk hci hcn ⟨hdep, by show 8 + (M2.2.2.1 + 11) + 32 * d2 ≤ 32 * d; omega⟩ hn hl.1 (rest := st.map (am_v φ)) ?_ (by rw [am_sum]; exact hr) hd ⟨Nat.le_refl _, Nat.le_refl _⟩) hS (fun r σ2 H1 locs1 hq hP1 hS1 => ?_)
  · rw [List.map_append, List.map_reverse]; rfl
  · have h := kk r σ2 hq p l e D dA z φ s m args below meth c C H1 locs1 ls hP1 hS1 hl
    cases r <;> exact h
theorem go_callS {As : List Value} (hd : decode M.2.1 pc = .ok (.invokestatic idx, 3)) (hL : Cond.methodLink M.1.cls idx M2.1 ∈ am_tbl) (hM : am_MS M2 n) (hn : As.length = n) (hr : (st.map fun v => v.category).sum ≤ 8) (hdep : d2 < d) (hE : am_Ev sh M2 d2 As σ Q2) (kk : ∀ r σ2, Q2 r σ2 → am_Go sh M d Q (pc + 3) lv (r.toList ++ st) σ2) : am_Go sh M d Q pc lv (As.reverse ++ st) σ := by
  intro p l e D dA z φ s m args below meth c C H locs ls hP hS hl
  obtain ⟨hM1, hM3, hM4, hM5, hM6⟩ := hM
  refine am_call (am_runS (Ts := am_wd M) (own := M.1.cls) (As := As) ⟨C.1, C.2.1, C.2.2.2.1, C.2.2.2.2.1, C.2.2.2.2.2.1⟩ (am_good hM4) C.2.2.2.2.2.2.2 (List.mem_cons_of_mem _ hL) (List.mem_cons_of_mem _ hM1) (List.mem_cons_of_mem _ hM3) hM5 hE hP ⟨hdep, by show 8 + (M2.2.2.1 + 11) + 32 * d2 ≤ 32 * d; omega⟩ hn hl.1 (rest := st.map (am_v φ)) ?_ (by rw [am_sum]; exact hr) hd ⟨Nat.le_refl _, Nat.le_refl _⟩) hS (fun r σ2 H1 locs1 hq hP1 hS1 => ?_)
  · rw [List.map_append, List.map_reverse]
  · have h := kk r σ2 hq p l e D dA z φ s m args below meth c C H1 locs1 ls hP1 hS1 hl
    cases r <;> exact h
theorem go_callSN {host : String} {As : List Value} (hd : decode M.2.1 pc = .ok (.invokestatic idx, 3)) (hL : (M.1.cls, idx, M2.1, host) ∈ am_nest) (hM : am_MS M2 n) (hn : As.length = n) (hr : (st.map fun v => v.category).sum ≤ 8) (hdep : d2 < d) (hE : am_Ev sh M2 d2 As σ Q2) (kk : ∀ r σ2, Q2 r σ2 → am_Go sh M d Q (pc + 3) lv (r.toList ++ st) σ2) : am_Go sh M d Q pc lv (As.reverse ++ st) σ := by
  intro p l e D dA z φ s m args below meth c C H locs ls hP hS hl
  obtain ⟨hM1, hM3, hM4, hM5, hM6⟩ := hM
  refine am_call (am_runSN (Ts := am_wd M) (own := M.1.cls) (host := host) (As := As) ⟨C.1, C.2.1, C.2.2.2.1, C.2.2.2.2.1, C.2.2.2.2.2.1⟩ (am_good hM4) C.2.2.2.2.2.2.2 hL (List.mem_cons_of_mem _ hM1) (List.mem_cons_of_mem _ hM3) hM5 hE hP ⟨hdep, by show 8 + (M2.2.2.1 + 11) + 32 * d2 ≤ 32 * d; omega⟩ hn hl.1 (rest := st.map (am_v φ)) ?_ (by rw [am_sum]; exact hr) hd ⟨Nat.le_refl _, Nat.le_refl _⟩) hS (fun r σ2 H1 locs1 hq hP1 hS1 => ?_)
  · rw [List.map_append, List.map_reverse]
  · have h := kk r σ2 hq p l e D dA z φ s m args below meth c C H1 locs1 ls hP1 hS1 hl
    cases r <;> exact h
end AMC
def am_ent : List Value → List (Option Value)
  | [] => []
  | v :: vs => if v.category = 2 then some v :: none :: am_ent vs else some v :: am_ent vs
theorem am_ent_args (φ : Nat → Nat) : ∀ (vs : List Value) (b i : Nat) (v : Value), (am_ent vs)[i]? = some (some v) → (b + i, am_v φ v) ∈ lv_args b (vs.map (am_v φ))
  | [], _, i, v, h => by simp [am_ent] at h
  | w :: vs, b, i, v, h => by
    unfold am_ent at h
    by_cases hc : w.category = 2
    · rw [if_pos hc] at h
      rcases i with _ | _ | i
      · rw [List.getElem?_cons_zero] at h
        cases h
        exact List.mem_cons_self
      · rw [List.getElem?_cons_succ, List.getElem?_cons_zero] at h
        cases h
      · rw [List.getElem?_cons_succ, List.getElem?_cons_succ] at h
        have := am_ent_args φ vs (b + 2) i v h
        show _ ∈ (b, am_v φ w) :: lv_args (if (am_v φ w).category = 2 then b + 2 else b + 1) (vs.map (am_v φ))
        rw [am_cat, if_pos hc]
        exact List.mem_cons_of_mem _ (by rw [show b + (i + 1 + 1) = b + 2 + i by omega]; exact this)
    · rw [if_neg hc] at h
      rcases i with _ | i
      · rw [List.getElem?_cons_zero] at h
        cases h
        exact List.mem_cons_self
      · rw [List.getElem?_cons_succ] at h
        have := am_ent_args φ vs (b + 1) i v h
        show _ ∈ (b, am_v φ w) :: lv_args (if (am_v φ w).category = 2 then b + 2 else b + 1) (vs.map (am_v φ))
        rw [am_cat, if_neg hc]
        exact List.mem_cons_of_mem _ (by rw [show b + (i + 1) = b + 1 + i by omega]; exact this)
theorem am_sl_len (φ : Nat → Nat) (vs : List Value) : (lg_sl (vs.map (am_v φ))).length = (am_ent vs).length := by
  induction vs with
  | nil => rfl
  | cons v vs ih =>
    have e1 : lg_sl ((v :: vs).map (am_v φ)) = (if (am_v φ v).category = 2 then [.val (am_v φ v), .second] else [.val (am_v φ v)]) ++ lg_sl (vs.map (am_v φ)) := rfl
    have e2 : am_ent (v :: vs) = if v.category = 2 then some v :: none :: am_ent vs else some v :: am_ent vs := rfl
    rw [e1, e2, am_cat]
    by_cases hc : v.category = 2
    · rw [if_pos hc, if_pos hc]; simp only [List.length_append, List.length_cons, List.length_nil]; omega
    · rw [if_neg hc, if_neg hc]; simp only [List.length_append, List.length_cons, List.length_nil]; omega
/-- a method's contract out of its body's walk -/
theorem am_ev {sh : am_Sh} {M : am_M} {d : Nat} {av : List Value} {σ : am_St} {Q : Option Value → am_St → Prop} (hy : plainName M.1.cls = true) (lv : List (Option Value)) (hlv : am_ent av ++ List.replicate (M.2.2.1 - (am_ent av).length) none = lv) (hle : (am_ent av).length ≤ M.2.2.1) (k : am_Go sh M d Q 0 lv [] σ) : am_Ev sh M d av σ Q := by
  intro l D dA z φ
  refine Met.ofW (cc := M.2.1) (maxL := M.2.2.1) (ret := M.2.2.2) hy rfl ?_
  intro p e s m args below meth c s₁ B hml hv
  obtain ⟨rfl, hP, hK⟩ := hv
  have hts := atoms_spec (ws := am_wd M) B.pre
  have hl := lv_entry (av.map (am_v φ)) (n := M.2.2.1) (by rw [am_sl_len]; exact hle)
  rw [lg_entry_eq]
  refine k p l e D dA z φ s m _ below meth c ⟨B.exec, B.bytes, B.returns, hml, findClass_of_methodNamed B.named, hts, B.notSynchronized, hK⟩ s.heap [] _ hP va_S.rf ⟨hl.1, hl.2.1, fun i v hi => ?_⟩
  subst hlv
  by_cases h : i < (am_ent av).length
  · rw [List.getElem?_append_left h] at hi
    have := am_ent_args φ av 0 i v hi
    rw [Nat.zero_add] at this
    exact hl.2.2 _ this
  · rw [List.getElem?_append_right (by omega)] at hi
    have := List.mem_of_getElem? hi
    rw [List.mem_replicate] at this
    cases this.2
