/-! ===== the law's start ===== -/
theorem lw_kn {own : String} {idx ci N : Nat} {fs : List (Nat × Int)} {args : Array Value} {s : State} (h : al_N own idx ci N fs) (hts : ∀ w ∈ am_tbl, w.before args s = true) : ∃ (cC : ClassId) (iS : Nat → Nat), ∀ q : vw_C, am_cl[ci]? = some q → u_Kn s q.1 q.2.1 q.2.2 cC iS := by
  obtain ⟨C, T, ty0, h1, h2, h3, h4, h5, h6, h7, h8⟩ := h
  obtain ⟨cC, iS, hk⟩ := u_known hts h2 (hts _ h5)
  exact ⟨cC, iS, fun q hq => by rw [h1] at hq; cases hq; exact hk⟩
theorem lw_am_K {args : Array Value} {s : State} (hts : ∀ w ∈ lw_tbl, w.before args s = true) : ∃ (D : va_G) (dA : Nat → ClassId), am_K D dA s ∧ va_AO RX1 s := by
  have ht : ∀ w ∈ am_tbl, w.before args s = true := fun w hw => hts w (List.mem_filter.mp hw).1
  obtain ⟨c0, i0, k0⟩ := lw_kn nw_X10_45 ht
  obtain ⟨c1, i1, k1⟩ := lw_kn nw_X10_16 ht
  obtain ⟨c2, i2, k2⟩ := lw_kn nw_X10_52 ht
  obtain ⟨c3, i3, k3⟩ := lw_kn nw_X10_31 ht
  obtain ⟨c4, i4, k4⟩ := lw_kn nw_X0_9 ht
  obtain ⟨c5, i5, k5⟩ := lw_kn nw_X10_7 ht
  obtain ⟨c6, i6, k6⟩ := lw_kn nw_X10_38 ht
  obtain ⟨c7, i7, k7⟩ := lw_kn nw_X10_59 ht
  obtain ⟨c8, i8, k8⟩ := lw_kn nw_L_7 ht
  obtain ⟨c9, i9, k9⟩ := lw_kn nw_L_10 ht
  obtain ⟨cI, kI, pI, a1, a2, a3⟩ := Cond.arrayClass_spec (ht _ aw_int)
  obtain ⟨cZ, kZ, pZ, b1, b2, b3⟩ := Cond.arrayClass_spec (ht _ aw_bool)
  have hO : (Cond.arrayOver (.object RX1)).before args s = true := hts _ (List.mem_of_getElem? (i := 218) (by decide +kernel))
  obtain ⟨pQ, cQ, kQ, q1, q2, q3, q4, q5⟩ := Cond.arrayOver_spec hO
  refine ⟨(fun c => match c with | 0 => c0 | 1 => c1 | 2 => c2 | 3 => c3 | 4 => c4 | 5 => c5 | 6 => c6 | 7 => c7 | 8 => c8 | _ => c9, fun c => match c with | 0 => i0 | 1 => i1 | 2 => i2 | 3 => i3 | 4 => i4 | 5 => i5 | 6 => i6 | 7 => i7 | 8 => i8 | _ => i9), (fun t => match t with | 0 => cI | 1 => cZ | _ => cQ), ⟨⟨fun c q hq => ?_, fun k q hq => ?_⟩, fun q hq => ?_⟩, va_AO.of hO⟩
  · match c, hq with
    | 0, hq => exact k0 q hq
    | 1, hq => exact k1 q hq
    | 2, hq => exact k2 q hq
    | 3, hq => exact k3 q hq
    | 4, hq => exact k4 q hq
    | 5, hq => exact k5 q hq
    | 6, hq => exact k6 q hq
    | 7, hq => exact k7 q hq
    | 8, hq => exact k8 q hq
    | 9, hq => exact k9 q hq
    | n + 10, hq =>
      have h := (List.getElem?_eq_some_iff.mp hq).1
      exact absurd (show n + 10 < 10 from h) (by omega)
  · match k, hq with
    | 0, hq => cases hq; exact ⟨fun n z => ⟨fun k h => (by cases h), kI, a2, pI, a3⟩, a1⟩
    | 1, hq => cases hq; exact ⟨fun n z => ⟨fun k h => (by cases h), kZ, b2, pZ, b3⟩, b1⟩
    | 2, hq => cases hq; exact ⟨fun n z => ⟨fun k h => (by cases h), kQ, q3, pQ, q4⟩, kQ, pQ, q3, q4, q1, q5⟩
    | n + 3, hq =>
      have h := (List.getElem?_eq_some_iff.mp hq).1
      exact absurd (show n + 3 < 3 from h) (by omega)
  · revert q
    exact List.forall_mem_cons.mpr ⟨va_tabs rfl rfl (hts _ (List.mem_of_getElem? (i := 381) (by decide +kernel))), List.forall_mem_cons.mpr ⟨va_tabs rfl rfl (hts _ (List.mem_of_getElem? (i := 396) (by decide +kernel))), fun _ h => absurd h List.not_mem_nil⟩⟩
theorem lw_cv {L : Nat} {xs : Nat → Int32} {K : ge_K} {R : Room} {pc : Nat} {x : Int32} {cells slots : Nat} (k : ge_Go K (lw_B L xs s0_) mL R pc [some (.ref 1000000), some (.ref 21), some (.ref 0), some (.int x)] [] cells slots) : ge_Go K (al_B (lw_G L xs) wlaw) mL R pc [some (.ref 1000000), some (.ref 0), some (.ref 101), some (.int x)] [] cells slots := by
  intro p l e D dA A h0 s m args below meth c C hO hN hA H locs ls φ hB hL
  obtain ⟨⟨g0, hG⟩, hc, hP, hD, hS⟩ := hB
  refine k p l e D dA A h0 s m args below meth c C hO hN hA H locs ls (cv_φ φ) ⟨hG, cv_world hP hD hG.2.2.2, hS⟩ ⟨hL.1, hL.2.1, fun i v hi => ?_⟩
  rcases i with _ | _ | _ | _ | i
  · cases hi; exact hL.2.2 0 (.ref 1000000) rfl
  · cases hi; exact hL.2.2 1 (.ref 0) rfl
  · cases hi; exact hL.2.2 2 (.ref 101) rfl
  · cases hi; exact hL.2.2 3 (.int x) rfl
  · cases hi
theorem lw_al {L : Nat} {xs : Nat → Int32} (hL : L ≤ 2048) : ge_Go lw_K (al_B (lw_G L xs) [.inr (8, df_X10)]) mL room_1 3 [some (.ref 1000000), none, none, none] [.ref 0] 1 14 := by
  refine ge_dup dL_law_3 rfl ?_
  refine al_call (M2 := mX10_init) (av := []) (k := 0) (w := []) (w' := wcls) dL_law_4 cl_L_9 mi_X10 ct_X10 dz_X10 (fun _ => rfl) rfl rfl rfl (by decide) (by decide) rfl (Nat.le_of_ble_eq_true rfl) ⟨Nat.le_of_ble_eq_true rfl, Nat.le_of_ble_eq_true rfl⟩ ⟨Nat.le_of_ble_eq_true rfl, Nat.le_of_ble_eq_true rfl⟩ rfl ?_
  refine ge_astore_n (i := 1) dL_law_7 (Nat.le_of_ble_eq_true rfl) (fun j o h1 h2 => by
    have h1 : j + 1 = 1 := h1
    obtain rfl : j = 0 := by omega
    cases h2; rfl) ?_
  refine (show ge_Go lw_K (al_B (lw_G L xs) wcls) mL room_1 8 [some (.ref 1000000), some (.ref 0), none, none] [] 101 2396 from ?_)
  refine al_new (k := 101) (w' := wcls ++ [.inr (9, df_X11)]) nw_L_10 dL_law_8 rfl (by decide) (by decide) rfl rfl (Nat.le_of_ble_eq_true rfl) (Nat.le_of_ble_eq_true rfl) ?_
  refine ge_dup dL_law_11 rfl ?_
  refine al_call (M2 := mX11_init) (av := []) (k := 101) (w := wcls) (w' := wlaw) dL_law_12 cl_L_12 mi_X11 ct_X11 dz_X11 (fun _ => rfl) rfl rfl rfl (by decide) (by decide) rfl (Nat.le_of_ble_eq_true rfl) ⟨Nat.le_of_ble_eq_true rfl, Nat.le_of_ble_eq_true rfl⟩ ⟨Nat.le_of_ble_eq_true rfl, Nat.le_of_ble_eq_true rfl⟩ rfl ?_
  refine ge_astore_n (i := 2) dL_law_15 (Nat.le_of_ble_eq_true rfl) (fun j o h1 h2 => by
    have h1 : j + 1 = 2 := h1
    obtain rfl : j = 1 := by omega
    cases h2; rfl) ?_
  refine ge_iconst dL_law_16 ?_
  refine ge_istore_n (i := 3) dL_law_17 (Nat.le_of_ble_eq_true rfl) (fun j o h1 h2 => by
    have h1 : j + 1 = 3 := h1
    obtain rfl : j = 2 := by omega
    cases h2; rfl) ?_
  refine (show ge_Go lw_K (al_B (lw_G L xs) wlaw) mL room_1 18 [some (.ref 1000000), some (.ref 0), some (.ref 101), some (.int (iZ ((0 : Nat) : Int)))] [] 122 11968 from ?_)
  refine ge_widen (k := 600000) (n := 7302250) (Nat.le_of_ble_eq_true rfl) (Nat.le_of_ble_eq_true rfl) ?_
  refine lw_cv ?_
  exact lw_loop hL (L + 1) 0 s0_ m0_ (by omega) (by omega) RepC_0 RepM_0 ⟨⟨Int.le_refl _, Int.le_refl _⟩, ⟨Int.le_refl _, Int.le_refl _⟩, Int.le_refl _, Int.le_refl _⟩
/-- from the entry, for every script of at most 2048 ints, the law comes to its end with true -/
theorem whole_start {p : Program} {e : Env} {s : State} {m : MethodId} {below : List Frame} {meth : Method} {c : Code} (l : Launch) {b L : Nat} {xs : Nat → Int32} (hL : L ≤ 2048) (C0 : lw_At p s m meth c b L xs) : W p l e room_1 s m #[Value.ref b] below meth c s.heap [] 0 0 (lw_Z below #[Value.ref b] s) (entryFrame m ([Value.ref b] : List Value).toArray 4) := by
  obtain ⟨hx, hb, hr, hml, hown, hts, hX, hbl, hlocks, hgv, hcd⟩ := C0
  obtain ⟨D, dA, hK, hO⟩ := lw_am_K hts
  have hw : ∀ w ∈ am_wd mL, w.before #[Value.ref b] s = true := fun w hw => by
    rcases List.mem_cons.mp hw with h | h
    · rw [h]; exact hcd
    · exact hts w (List.mem_filter.mp h).1
  have C : am_Cx mL D dA p s m #[Value.ref b] meth c := ⟨hx, hb, hr, hml, hown, hw, hlocks, hK⟩
  have hl := lv_entry [Value.ref b] (n := 4) (Nat.le_of_ble_eq_true rfl)
  rw [lg_entry_eq]
  generalize (lg_sl [Value.ref b] ++ List.replicate (4 - (lg_sl [Value.ref b]).length) Slot.unset).toArray = ls at hl ⊢
  have hl0 : ls[0]? = some (.val (.ref b)) := lv_at (v := .ref b) (i := 0) hl 0 rfl
  obtain ⟨Cn, T, ty0, h1, h2, h3, h4, h5, h6, h7, h8⟩ := nw_L_7
  refine va_new (D := D) (cl := am_cl) (tys := am_tys dA) (ws := []) (A := fun q => s.heap.size ≤ q) (ci := 8) (fs := df_X10.map (al_fv id)) (C := Cn) (T := T) (N := 14) (Ts := am_wd mL) hx hb hw (fun w h => List.mem_cons_of_mem _ (h2 w h)) ty0 h3 hown (hw _ (List.mem_cons_of_mem _ h4)) (hw _ (List.mem_cons_of_mem _ h5)) (hw _ (List.mem_cons_of_mem _ h6)) hK.1 (fun k q hq => (by cases hq)) ⟨fun i j p q hi => (by cases hi), fun k q hq => (by cases hq)⟩ va_S.rf (fun q h => h) h1 h7 (Nat.le_of_ble_eq_true rfl) (Nat.le_of_ble_eq_true rfl) dL_law_0 (fun q H1 hP1 hD1 hS1 => ?_)
  have e0 : ∀ ψ : Nat → Nat, df_X10.map (al_fv ψ) = df_X10.map (al_fv id) := fun ψ => List.map_congr_left (fun f hf => al_fv_cg (n := 0) (h8 f hf) (fun i hi => absurd hi (Nat.not_lt_zero i)))
  have e1 : al_ws dA (fun i => if i = 1000000 then b else q) [.inr (8, df_X10)] = [(q, .inr (8, df_X10.map (al_fv id)))] := by
    show [(q, (Sum.inr (8, df_X10.map (al_fv (fun i => if i = 1000000 then b else q))) : va_E))] = _
    rw [e0]
  exact lw_al hL p l e D dA (fun q => s.heap.size ≤ q) q s m #[Value.ref b] below meth c C hO (fun h => absurd h (by decide)) (fun q h => h) H1 [] ls (fun i => if i = 1000000 then b else q) ⟨⟨rfl, rfl, hX, hbl, rfl⟩, fun x hx => by rw [List.mem_singleton.mp hx]; exact al_cb_mono (Nat.zero_le _) dz_X10, by rw [e1]; exact hP1, by rw [e1]; exact hD1, hS1⟩ ⟨hl.1, hl.2.1, fun i v hi => by
    rcases i with _ | _ | _ | _ | i
    · cases hi; exact hl0
    · cases hi
    · cases hi
    · cases hi
    · cases hi⟩
