/-! ===== Clashes: take ===== -/
/-- a contract's end may be weakened -/
theorem am_ev_wk {sh : am_Sh} {M : am_M} {d : Nat} {av : List Value} {σ : am_St} {Q Q' : Option Value → am_St → Prop} (h : am_Ev sh M d av σ Q) (hq : ∀ r σ2, Q r σ2 → Q' r σ2) : am_Ev sh M d av σ Q' := by
  intro l D dA z φ
  exact MetFree.mono (h l D dA z φ) (fun _ _ h => h) (fun _ _ _ _ _ h => h) (fun _ _ _ _ _ hx => ⟨⟨by obtain ⟨r, σ2, e1, e2, e3⟩ := hx.1.1; exact ⟨r, σ2, e1, hq r σ2 e2, e3⟩, hx.1.2⟩, hx.2⟩)
/-- the class's texts of the remainders (the lines 54, 56 ..) -/
def txs (σ : am_St) (τ : Nat → List Int) : Prop := ∀ i, i < 25 → hold σ (54 + 2 * i) 56 (τ i)
def tupd (τ : Nat → List Int) (j : Nat) (o : List Int) : Nat → List Int := fun i => if i = j then o else τ i
theorem tx_g {j : Nat} (hj : j < 25) : (fun i : Nat => if i < 25 then some (54 + 2 * i) else none) ((j : Int).toNat) = some (54 + 2 * j) := by
  show (if (j : Int).toNat < 25 then some (54 + 2 * (j : Int).toNat) else none) = _
  rw [Int.toNat_natCast, if_pos hj]
theorem txs.off {σ σ' : am_St} {τ : Nat → List Int} {ks : List Nat} (h : txs σ τ) (ho : am_off ks σ σ') (hk : ∀ p ∈ ks, p < 54 ∨ 104 ≤ p) : txs σ' τ := fun i hi => (h i hi).off ho (fun z => by have := hk _ z; omega) (fun z => by have := hk _ z; omega)
theorem ev_X0_take {σ : am_St} {ws : List (List Int)} {τ : Nat → List Int} {v o : List Int} (hr : hold σ 45 25 (ws.map enc)) (hwo : ∀ w ∈ ws, okl w ∧ w.length ≤ 4) (ht : txs σ τ) (hτ : ∀ i, i < 25 → okl (τ i)) (ho : hold σ 104 56 o) (hok : okl o) (hv : okl v) (hv4 : v.length ≤ 4) (hvm : v ∈ ws) : am_Ev SH mX0_take 1 [.ref 43, .int (iZ (enc v))] σ (am_rI (fun x σ2 => ∃ j, ws[j]? = some v ∧ ((x = 1 ∧ (τ j = [] ∨ encN o < encN (τ j)) ∧ txs σ2 (tupd τ j o)) ∨ (x = 0 ∧ τ j ≠ [] ∧ encN (τ j) ≤ encN o ∧ σ2 = σ)) ∧ am_off [54 + 2 * j, 55 + 2 * j] σ σ2)) := by
  have ew := enc_inR hv hv4
  have em := enc_memW hwo hv
  have hlen := hr.2.2.2.2.1
  rw [List.length_map] at hlen
  have ho5 := ho.2.2.2.2.1
  refine am_ev (by decide) [some (.ref 43), some (.int (iZ (enc v))), none, none] rfl (Nat.le_of_ble_eq_true rfl) ?_
  refine go_aload_n dX0_take_0 rfl ?_
  refine go_getr fl_X0_12 dX0_take_1 sh_43 rfl ?_
  refine go_getr fl_X0_47 dX0_take_4 sh_44 rfl ?_
  refine go_iload_n dX0_take_7 rfl ?_
  refine go_cvI1 (M2 := mX1_placeOf) dX0_take_8 ml_X0_110 mv_X1_placeOf hr.1 rfl rfl (Nat.le_of_ble_eq_true rfl) (by decide) (ev_X1_placeOf hr ew) (fun pl σp hpl => ?_)
  obtain ⟨hpl, rfl⟩ := hpl
  obtain ⟨j, hj, hj2⟩ : ∃ j : Nat, pl = (j : Int) ∧ ws[j]? = some v := by
    rcases hpl with hpl | ⟨j, hj, hj2, -⟩
    · exact absurd (em.mpr hvm) hpl.2
    · refine ⟨j, hj, ?_⟩
      rw [List.getElem?_map] at hj2
      cases hw : ws[j]? with
      | none => rw [hw] at hj2; cases hj2
      | some x =>
        rw [hw] at hj2
        have e1 : enc x = enc v := Option.some.inj hj2
        have e2 : encN x = encN v := by unfold enc at e1; omega
        rw [(encN_inj (hwo x (List.mem_of_getElem? hw)).1 hv).mp e2]
  subst hj
  have hjl : j < 25 := by have := (List.getElem?_eq_some_iff.mp hj2).1; omega
  have hjt := ht j hjl
  have hj5 := hjt.2.2.2.2.1
  refine go_ist2 dX0_take_11 (Nat.le_of_ble_eq_true rfl) rfl ?_
  refine go_iload_n dX0_take_12 rfl ?_
  refine go_if_lt (tgt := 22) dX0_take_13 (by decide) (by unfold inR; omega) (fun b13 => ?_) (fun b13 => ?_)
  · skip
    exact absurd b13 (by omega)
  · skip
    refine go_iload_n dX0_take_16 rfl ?_
    refine go_bipush dX0_take_17 rfl ?_
    refine go_icmp_lt (tgt := 24) dX0_take_19 (by decide) (by unfold inR; omega) (by unfold inR; omega) (fun b19 => ?_) (fun b19 => ?_)
    · skip
      refine go_aload_n dX0_take_24 rfl ?_
      refine go_getr fl_X0_33 dX0_take_25 sh_43 rfl ?_
      refine go_iload_n dX0_take_28 rfl ?_
      refine go_aaload dX0_take_29 sh_53 (by first | assumption | exact Nat.le_of_ble_eq_true rfl) (by omega) (by omega) (tx_g hjl) ?_
      refine go_ast3 dX0_take_30 (Nat.le_of_ble_eq_true rfl) rfl ?_
      refine go_aload_n dX0_take_31 rfl ?_
      refine go_cvP0 (M2 := mX1_size) dX0_take_32 ml_X0_50 mv_X1_size hjt.1 rfl rfl (Nat.le_of_ble_eq_true rfl) (by decide) (ev_X1_size hjt) ?_
      refine go_if_le (tgt := 51) dX0_take_35 (by decide) (by unfold inR; omega) (fun b35 => ?_) (fun b35 => ?_)
      · skip
        have hcase : τ j = [] ∨ encN o < encN (τ j) := Or.inl (List.length_eq_zero_iff.mp (by omega))
        refine go_aload_n dX0_take_51 rfl ?_
        refine go_aload_n dX0_take_52 rfl ?_
        refine go_getr fl_X0_37 dX0_take_53 sh_43 rfl ?_
        refine go_cvV1 (M2 := mX1_copy) dX0_take_56 ml_X0_71 mv_X1_copy hjt.1 rfl rfl (Nat.le_of_ble_eq_true rfl) (by decide) (ev_X1_copy hjt ho ho5 (by omega) (by omega) (by omega)) (fun σ2 hq => ?_)
        refine go_iconst dX0_take_59 ?_
        refine go_retZ dX0_take_60 rfl (by omega) ?_
        refine ⟨j, hj2, Or.inl ⟨rfl, hcase, fun i hi => ?_⟩, hq.2.wk (by simp; omega)⟩
        unfold tupd
        by_cases hij : i = j
        · rw [if_pos hij, hij]; exact hq.1
        · rw [if_neg hij]; exact (ht i hi).off hq.2 (by simp; omega) (by simp; omega)
      · skip
        refine go_aload_n dX0_take_38 rfl ?_
        refine go_getr fl_X0_37 dX0_take_39 sh_43 rfl ?_
        refine go_aload_n dX0_take_42 rfl ?_
        refine go_cvI1 (M2 := mX1_isBefore) dX0_take_43 ml_X0_113 mv_X1_isBefore ho.1 rfl rfl (Nat.le_of_ble_eq_true rfl) (by decide) (ev_X1_isBefore ho hjt) (fun xb σb hxb => ?_)
        obtain ⟨hxb, rfl⟩ := hxb
        have hbf := encN_lt hok (hτ j hjl)
        refine go_if_ne (tgt := 51) dX0_take_46 (by decide) (by rcases hxb with z | z <;> unfold inR <;> omega) (fun b46 => ?_) (fun b46 => ?_)
        · skip
          have hcase : τ j = [] ∨ encN o < encN (τ j) := Or.inr (by rcases hxb with z | z; exact hbf.mpr z.2; omega)
          refine go_aload_n dX0_take_51 rfl ?_
          refine go_aload_n dX0_take_52 rfl ?_
          refine go_getr fl_X0_37 dX0_take_53 sh_43 rfl ?_
          refine go_cvV1 (M2 := mX1_copy) dX0_take_56 ml_X0_71 mv_X1_copy hjt.1 rfl rfl (Nat.le_of_ble_eq_true rfl) (by decide) (ev_X1_copy hjt ho ho5 (by omega) (by omega) (by omega)) (fun σ2 hq => ?_)
          refine go_iconst dX0_take_59 ?_
          refine go_retZ dX0_take_60 rfl (by omega) ?_
          refine ⟨j, hj2, Or.inl ⟨rfl, hcase, fun i hi => ?_⟩, hq.2.wk (by simp; omega)⟩
          unfold tupd
          by_cases hij : i = j
          · rw [if_pos hij, hij]; exact hq.1
          · rw [if_neg hij]; exact (ht i hi).off hq.2 (by simp; omega) (by simp; omega)
        · skip
          refine go_iconst dX0_take_49 ?_
          refine go_retZ dX0_take_50 rfl (by omega) ?_
          refine ⟨j, hj2, Or.inr ⟨rfl, ?_, ?_, rfl⟩, am_off.rf⟩
          · intro z; rw [z] at b35; simp at b35
          · rcases hxb with z | z; omega; exact Nat.le_of_not_lt (fun z2 => z.2 (hbf.mp z2))
    · skip
      exact absurd hjl (by omega)
