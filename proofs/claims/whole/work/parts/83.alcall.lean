/-! ===== a constructor's call, and its contract out of its body's walk ===== -/
section ALC
variable {G : al_G} {K : ge_K} {M : am_M} {R : Room} {pc : Nat} {lv : List (Option Value)} {st : List Value} {cells slots : Nat} {w w0 w' : List al_C}
theorem al_call {M2 : am_M} {idx n d2 C2 N2 k : Nat} {av : List Value} {x0 : al_C} {wE : List al_C} (hd : decode M.2.1 pc = .ok (.invokespecial idx, 3)) (hL : Cond.methodLink M.1.cls idx M2.1 ∈ am_tbl) (hM : al_MI M2 n) (hE : al_Ct M2 d2 C2 N2 av x0 wE) (hx0 : al_cb 0 x0) (hav : ∀ φ : Nat → Nat, av.map (am_v φ) = av) (hn : av.length = n) (hw0 : w ++ [x0] = w0) (hk : w.length = k) (hb : k + wE.length < 1000000) (h1 : 0 < wE.length) (hv : al_vs (k + 1) lv st = true) (hr : (st.map fun v => v.category).sum ≤ 8) (hR : d2 + 1 ≤ R.frames ∧ 8 + (M2.2.2.1 + 11) + 32 * d2 ≤ R.locals) (hcs : cells + C2 ≤ R.cells ∧ slots + N2 ≤ R.slots) (hw' : w ++ wE.map (al_sh k) = w') (kk : ge_Go K (al_B G w') M R (pc + 3) lv st (cells + C2) (slots + N2)) : ge_Go K (al_B G w0) M R pc lv (av.reverse ++ .ref k :: st) cells slots := by
  subst hw0
  subst hw'
  subst hk
  intro p l e D dA A h0 s m args below meth c C hO hN hA H locs ls φ hB hL0
  obtain ⟨g0, hc, hP, hD, hS⟩ := hB
  obtain ⟨m1, m2, m3, m4, m5, m6⟩ := hM
  have hcw : ∀ x ∈ w, al_cb (w.length + 1) x := fun x hx => by
    have := hc x (List.mem_append_left _ hx)
    rwa [List.length_append, List.length_singleton] at this
  have eE : al_E dA φ x0 = al_E dA (fun _ => φ w.length) x0 := al_E_cg hx0 (fun i hi => absurd hi (Nat.not_lt_zero i))
  rw [al_ws_snoc, eE] at hP hD
  generalize hE0 : al_E dA (fun _ => φ w.length) x0 = E0 at hP hD
  have hgC : (al_ws dA φ w ++ [(φ w.length, E0)])[w.length]? = some (φ w.length, E0) := by
    rw [List.getElem?_append_right (by rw [al_ws_len]; exact Nat.le_refl _), al_ws_len, Nat.sub_self]
    rfl
  have hC1 : [w.length].map (fun i => (al_ws dA φ w ++ [(φ w.length, E0)])[i]?) = [(φ w.length, E0)].map some := by
    show [(al_ws dA φ w ++ [(φ w.length, E0)])[w.length]?] = [some (φ w.length, E0)]
    rw [hgC]
  have hR1 : (List.range w.length).map (fun i => (al_ws dA φ w ++ [(φ w.length, E0)])[i]?) = (al_ws dA φ w).map some := by
    apply List.ext_getElem?
    intro i
    rw [List.getElem?_map, List.getElem?_map]
    by_cases hi : i < w.length
    · rw [List.getElem?_range hi, List.getElem?_eq_getElem (l := al_ws dA φ w) (by rw [al_ws_len]; exact hi)]
      show some ((al_ws dA φ w ++ [(φ w.length, E0)])[i]?) = some _
      rw [List.getElem?_append_left (by rw [al_ws_len]; exact hi), List.getElem?_eq_getElem (l := al_ws dA φ w) (by rw [al_ws_len]; exact hi)]
    · rw [List.getElem?_eq_none (by rw [List.length_range]; omega), List.getElem?_eq_none (by rw [al_ws_len]; omega)]
      rfl
  have hPc : va_P D am_cl [(φ w.length, E0)] H := hP.sub [w.length] (by show List.filterMap _ [w.length] = _; simp only [List.filterMap_cons, hgC, List.filterMap_nil])
  have hF : ∀ q, va_A [(φ w.length, E0)] H.size q → A q := va_free hD hS hA [w.length] hC1
  have hEm := hE l D dA (φ w.length) H.size
  have eA : al_A dA (φ w.length) H.size x0 = va_A [(φ w.length, E0)] H.size := by rw [← hE0]
  rw [eA, hE0] at hEm
  have hbl : FrameBlind (va_Pc (.ref (φ w.length) :: av) (fun U => U.heap.size = H.size ∧ va_P D am_cl [(φ w.length, E0)] U.heap ∧ am_K D dA U ∧ va_AO RX1 U)) := fun a U g mk q => by
    obtain ⟨q0, q1, qP, qK, qO⟩ := q
    exact ⟨q0, q1, qP, qK.calling, va_AO.moved (u := U) (U := U.calling g mk a) (Vm.Alike.refl U.vm) qO⟩
  have hts := C.2.2.2.2.2.1
  have hG := am_good (M := M) m5
  have hcb := callB_of (R := R) (own := M.1.cls) (index := idx) (y := M2.1) (bytes := M2.2.1) (maxL := M2.2.2.1) (ret := none) (ws' := am_tbl) (rm := al_room d2 C2 N2) (mc := C2) (ms := N2) n hts hG (by show Cond.code M2.1 M2.2.1 M2.2.2.1 M2.2.2.2 :: am_tbl = _; rw [m1]) rfl rfl (hts _ (List.mem_cons_of_mem _ m4)) (hts _ (List.mem_cons_of_mem _ hL)) m6 hR
  refine va_callv (va_runI (As := av) (rest := st.map (am_v φ)) (Ts := am_wd M) (own := M.1.cls) (nL := M.2.2.1) (cc := M.2.1) ⟨C.1, C.2.1, C.2.2.2.1, C.2.2.2.2.1, hts⟩ hEm ⟨hcb, m2, hts _ (List.mem_cons_of_mem _ m3)⟩ ⟨hbl, fun U hU hW => ⟨rfl, by rw [hU], by rw [hU]; exact hPc, C.2.2.2.2.2.2.2.warm hW, va_AO.moved hW.alike hO⟩⟩ rfl hn hL0.1 ?_ (lv_room (by rw [am_sum]; exact hr)) hd hcs) hS (fun q _ h => hF q h) hF (fun ψ t H1 locs1 ht hvm hpost hB1 hz1 hk1 hS1 => ?_)
  · show ((av.reverse ++ .ref w.length :: st).map (am_v φ)) = _
    rw [List.map_append, List.map_reverse, hav φ]
    rfl
  · obtain ⟨q1, q2⟩ := hpost
    obtain ⟨hP1, hD1⟩ := hB1
    rw [ht] at hP1
    obtain ⟨hP2, hD2⟩ := va_join (wr := al_ws dA φ w) (w1 := al_ws dA ψ wE) hP hD [w.length] (List.range w.length) hC1 hR1 (va_nd_of _ List.nodup_range) (fun i hi h => by
      have h3 := List.mem_range.mp hi
      rw [List.mem_singleton.mp h] at h3
      omega) hk1 hF hP1 hD1
    rw [← al_ws_join q1 hcw q2 hb] at hP2 hD2
    have hag := al_jn_ag q1 (by omega : w.length < 1000000)
    have g0' : al_jn φ ψ w.length 0 = h0 ∧ G s args A (al_jn φ ψ w.length 1000000) := ⟨(hag 0 (Or.inl (by omega))).trans g0.1, by rw [hag 1000000 (Or.inr (Nat.le_refl _))]; exact g0.2⟩
    have h := kk p l e D dA A h0 s m args below meth c C hO hN hA H1 locs1 ls (al_jn φ ψ w.length) ⟨g0', al_cl_app hcw q2 h1, hP2, hD2, hS1⟩ (al_Ls_cg hv hag hL0)
    rw [al_st_cg hv hag] at h
    exact h
theorem al_ct {d C N : Nat} {av : List Value} {x0 : al_C} {wE : List al_C} (hy : plainName M.1.cls = true) (hx0 : al_cb 0 x0) (hlv : am_ent (.ref 0 :: av) ++ List.replicate (M.2.2.1 - (am_ent (.ref 0 :: av)).length) none = lv) (hle : (am_ent (.ref 0 :: av)).length ≤ M.2.2.1) (hav : ∀ φ : Nat → Nat, av.map (am_v φ) = av) (hi : M.1.name = "<init>") (k : ge_Go (al_Kc C N wE) (al_B al_T [x0]) M (al_room d C N) 0 lv [] 0 0) : al_Ct M d C N av x0 wE := by
  intro l D dA h0 sz
  refine Met.ofW (cc := M.2.1) (maxL := M.2.2.1) (ret := M.2.2.2) hy rfl ?_
  intro p e s m args below meth c s₁ B hml hv
  obtain ⟨rfl, hsz, hP, hK, hO⟩ := hv
  subst hsz
  have hts := atoms_spec (ws := am_wd M) B.pre
  have eav : (Value.ref h0 :: av) = (Value.ref 0 :: av).map (am_v (fun _ => h0)) := by
    rw [List.map_cons, hav]
    rfl
  rw [eav]
  have hl := lv_entry ((Value.ref 0 :: av).map (am_v (fun _ => h0))) (n := M.2.2.1) (by rw [am_sl_len]; exact hle)
  rw [lg_entry_eq]
  refine k p l e D dA (al_A dA h0 s.heap.size x0) h0 s m _ below meth c ⟨B.exec, B.bytes, B.returns, hml, findClass_of_methodNamed B.named, by rw [← eav]; exact hts, B.notSynchronized, hK⟩ hO (fun _ => (name_of_methodNamed B.named B.method).1.trans hi) (fun q h => Or.inr h) s.heap [] _ (fun _ => h0) ⟨⟨rfl, trivial⟩, fun x hx => ?_, hP, ⟨fun i j p q h1 h2 _ => ?_, fun k q hk => va_A.in hk⟩, va_S.rf⟩ ⟨hl.1, hl.2.1, fun i v hi => ?_⟩
  · rw [List.mem_singleton.mp hx]; exact al_cb_mono (Nat.zero_le _) hx0
  · have a1 := (List.getElem?_eq_some_iff.mp h1).1
    have a2 := (List.getElem?_eq_some_iff.mp h2).1
    rw [al_ws_len, List.length_singleton] at a1 a2
    omega
  · subst hlv
    by_cases h : i < (am_ent (.ref 0 :: av)).length
    · rw [List.getElem?_append_left h] at hi
      have := am_ent_args (fun _ => h0) (.ref 0 :: av) 0 i v hi
      rw [Nat.zero_add] at this
      exact hl.2.2 _ this
    · rw [List.getElem?_append_right (by omega)] at hi
      have := List.mem_of_getElem? hi
      rw [List.mem_replicate] at this
      cases this.2
end ALC
