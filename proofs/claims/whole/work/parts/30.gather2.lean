/-! ===== Remainders: gather, wouldBeClean ===== -/
theorem perm_map {α β : Type} [DecidableEq α] [DecidableEq β] (f : α → β) : ∀ (ys : List β) (ws : List α), ys.Perm (ws.map f) → ∃ ws' : List α, ws'.Perm ws ∧ ws'.map f = ys
  | [], ws, h => by
    have : ws = [] := by
      have := h.length_eq
      rw [List.length_map] at this
      exact List.length_eq_zero_iff.mp this.symm
    subst this
    exact ⟨[], List.Perm.refl _, rfl⟩
  | y :: ys, ws, h => by
    obtain ⟨w, hw, rfl⟩ := List.mem_map.mp (h.mem_iff.mp List.mem_cons_self)
    have hp : ws.Perm (w :: ws.erase w) := List.perm_cons_erase hw
    have h2 : (f w :: ys).Perm ((w :: ws.erase w).map f) := h.trans (hp.map f)
    rw [List.map_cons] at h2
    obtain ⟨ws', q1, q2⟩ := perm_map f ys (ws.erase w) h2.cons_inv
    exact ⟨w :: ws', (q1.cons w).trans hp.symm, by rw [List.map_cons, q2]⟩
/-- all remainders, in their order -/
def rmA (S ws : List (List Int)) : Prop := (∀ w, w ∈ ws ↔ Rem S w) ∧ ws.Pairwise (fun a b => encN a < encN b)
theorem rm_close {S ws : List (List Int)} (h1 : ∀ w, rm_st S w → w ∈ ws) (h2 : ∀ v ∈ ws, v ≠ [] → ∀ w, rm_nx S v w → w ∈ ws) {w : List Int} (h : Rem S w) : w ∈ ws := h (fun x => x ∈ ws) h1 (fun v w hv hne hw => h2 v hv hne w hw)
theorem ev_X5_gather {σ : am_St} {k ks n : Nat} {S : List (List Int)} {ys : List Int} (hk : SH[k]? = some (.inr (4, [k + 4, 0]))) (h : hold σ (k + 1) 25 ys) (g : hold σ ks n (S.map enc)) (hS : okS S) (d : ks ≠ k ∧ ks ≠ k + 1 ∧ ks ≠ k + 2 ∧ ks + 1 ≠ k ∧ ks + 1 ≠ k + 2) : am_Ev SH mX5_gather 3 [.ref k, .ref ks] σ (am_rV (fun σ2 => ∃ ws2, rmd σ2 k ws2 ∧ rmA S ws2 ∧ am_off [k, k + 1, k + 2] σ σ2)) := by
  have hk1 := h.1
  have loop : ∀ (m : Nat) (i : Nat) (ws1 : List (List Int)) (σ1 : am_St), 26 - i < m → i ≤ ws1.length → rmd σ1 k ws1 → rmL S ws1 → am_off [k, k + 1, k + 2] σ σ1 → (∀ w, rm_st S w → w ∈ ws1) → (∀ j (hj : j < ws1.length), j < i → ws1[j] ≠ [] → ∀ w, rm_nx S ws1[j] w → w ∈ ws1) → am_Go SH mX5_gather 3 (am_rV (fun σ2 => ∃ ws2, rmd σ2 k ws2 ∧ rmA S ws2 ∧ am_off [k, k + 1, k + 2] σ σ2)) 7 [some (.ref k), some (.ref ks), some (.int (iZ i))] [] σ1 := by
    intro m
    induction m with
    | zero => intro i ws1 σ1 hm hi hr hl; have := Rem_len hS hl.1 hl.2; exact absurd hm (by omega)
    | succ m ih =>
      intro i ws1 σ1 hm hi hr hl ho hst hin
      have g' := g.off ho (by simp; omega) (by simp; omega)
      have h25 := Rem_len hS hl.1 hl.2
      by_cases hlt : i < ws1.length
      · have eg : ws1.getD i [] = ws1[i] := by rw [List.getD_eq_getElem?_getD, List.getElem?_eq_getElem hlt]; rfl
        refine go_iload_n dX5_gather_7 rfl ?_
        refine go_aload_n dX5_gather_8 rfl ?_
        refine go_getr fl_X5_14 dX5_gather_9 hk rfl ?_
        refine go_cvP0 (M2 := mX1_size) dX5_gather_12 ml_X5_28 mv_X1_size hk1 rfl rfl (Nat.le_of_ble_eq_true rfl) (by decide) (ev_X1_size hr.1) ?_
        rw [List.length_map]
        refine go_icmp_ge (tgt := 43) dX5_gather_15 (by decide) (by unfold inR; omega) (by unfold inR; omega) (fun b15 => ?_) (fun b15 => ?_)
        · skip
          exact absurd b15 (by omega)
        · skip
          refine go_iload_n dX5_gather_18 rfl ?_
          refine go_bipush dX5_gather_19 rfl ?_
          refine go_icmp_ge (tgt := 43) dX5_gather_21 (by decide) (by unfold inR; omega) (by unfold inR; omega) (fun b21 => ?_) (fun b21 => ?_)
          · skip
            exact absurd b21 (by omega)
          · skip
            refine go_aload_n dX5_gather_24 rfl ?_
            refine go_aload_n dX5_gather_25 rfl ?_
            refine go_getr fl_X5_14 dX5_gather_26 hk rfl ?_
            refine go_iload_n dX5_gather_29 rfl ?_
            refine go_cvP1 (M2 := mX1_at) dX5_gather_30 ml_X5_32 mv_X1_at hk1 rfl rfl (Nat.le_of_ble_eq_true rfl) (by decide) (ev_X1_at hr.1 (by unfold inR; omega)) ?_
            rw [ln_at_map (by omega) (by omega), Int.toNat_natCast, eg]
            refine go_aload_n dX5_gather_33 rfl ?_
            refine go_cvV2 (M2 := mX5_follow) dX5_gather_34 ml_X5_36 mv_X5_follow hk rfl rfl (Nat.le_of_ble_eq_true rfl) (by decide) (ev_X5_follow hk hr g' hS hl (hl.2 _ (List.getElem_mem hlt)) d) (fun σ2 hq => ?_)
            refine go_inc2 dX5_gather_37 (Nat.le_of_ble_eq_true rfl) rfl ?_
            refine go_goto (tgt := 7) dX5_gather_40 (by decide) ?_
            obtain ⟨ws2, a1, a2, a3, a4, a5⟩ := hq
            rw [show (i : Int) + 1 = ((i + 1 : Nat) : Int) by omega]
            have hle := a3.length_le
            refine ih (i + 1) ws2 σ2 (by omega) (by omega) a1 a2 (ho.tr a5) (fun w hw => a3.subset (hst w hw)) (fun j hj hji hne w hw => ?_)
            have ej : ws2[j] = ws1[j]'(by omega) := (a3.getElem (by omega)).symm
            by_cases hje : j = i
            · subst hje; rw [ej] at hne hw; exact a4 hne w hw
            · rw [ej] at hne hw; exact a3.subset (hin j (by omega) (by omega) hne w hw)
      · have hcl : ∀ w, w ∈ ws1 ↔ Rem S w := fun w => ⟨fun q => hl.2 w q, fun q => rm_close hst (fun v hv hne w hw => by
            obtain ⟨j, hj, rfl⟩ := List.getElem_of_mem hv
            exact hin j hj (by omega) hne w hw) q⟩
        refine go_iload_n dX5_gather_7 rfl ?_
        refine go_aload_n dX5_gather_8 rfl ?_
        refine go_getr fl_X5_14 dX5_gather_9 hk rfl ?_
        refine go_cvP0 (M2 := mX1_size) dX5_gather_12 ml_X5_28 mv_X1_size hk1 rfl rfl (Nat.le_of_ble_eq_true rfl) (by decide) (ev_X1_size hr.1) ?_
        rw [List.length_map]
        refine go_icmp_ge (tgt := 43) dX5_gather_15 (by decide) (by unfold inR; omega) (by unfold inR; omega) (fun b15 => ?_) (fun b15 => ?_)
        · skip
          refine go_aload_n dX5_gather_43 rfl ?_
          refine go_getr fl_X5_14 dX5_gather_44 hk rfl ?_
          refine go_cvV0 (M2 := mX1_sort) dX5_gather_47 ml_X5_40 mv_X1_sort hk1 rfl rfl (Nat.le_of_ble_eq_true rfl) (by decide) (ev_X1_sort hr.1 (by decide)) (fun σ2 hq => ?_)
          refine go_retV dX5_gather_50 rfl ?_
          obtain ⟨ys, s1, s2, s3, s4⟩ := hq
          obtain ⟨ws', p1, p2⟩ := perm_map enc ys ws1 s2
          have hmem : ∀ x, x ∈ ws' ↔ x ∈ ws1 := fun x => p1.mem_iff
          refine ⟨ws', ⟨by rw [p2]; exact s1, ?_, fun x hx => hr.2.2 x ((hmem x).mp hx)⟩, ⟨fun w => (hmem w).trans (hcl w), ?_⟩, ho.tr (s4.wk (by simp))⟩
          · rw [(s4 k (by simp; omega)).1, hr.2.1]
            by_cases q : ([] : List Int) ∈ ws1
            · rw [if_pos q, if_pos ((hmem _).mpr q)]
            · rw [if_neg q, if_neg (fun z => q ((hmem _).mp z))]
          · rw [← p2, List.pairwise_map] at s3
            have hnd : ws'.Nodup := p1.nodup_iff.mpr hl.1
            have hand : ws'.Pairwise (fun a b => a ≠ b ∧ enc a ≤ enc b) := List.Pairwise.and hnd s3
            refine hand.imp_of_mem (fun {a b} ha hb hab => ?_)
            have ka := (hr.2.2 a ((hmem a).mp ha)).1
            have kb := (hr.2.2 b ((hmem b).mp hb)).1
            have hne : encN a ≠ encN b := fun e => hab.1 ((encN_inj ka kb).mp e)
            have hle := hab.2
            unfold enc at hle
            omega
        · skip
          exact absurd b15 (by omega)
  refine am_ev (by decide) [some (.ref k), some (.ref ks), none] rfl (Nat.le_of_ble_eq_true rfl) ?_
  refine go_aload_n dX5_gather_0 rfl ?_
  refine go_aload_n dX5_gather_1 rfl ?_
  refine go_cvV1 (M2 := mX5_start) dX5_gather_2 ml_X5_24 mv_X5_start hk rfl rfl (Nat.le_of_ble_eq_true rfl) (by decide) (ev_X5_start hk h g hS d) (fun σ1 hq => ?_)
  refine go_iconst dX5_gather_5 ?_
  refine go_ist2 dX5_gather_6 (Nat.le_of_ble_eq_true rfl) rfl ?_
  obtain ⟨ws1, a1, a2, a3, a4⟩ := hq
  exact loop 27 0 ws1 σ1 (by omega) (by omega) a1 a2 a4 a3 (fun j hj hj0 => absurd hj0 (by omega))
theorem ev_X5_wouldBeClean {σ : am_St} {k ks n : Nat} {S : List (List Int)} {ys : List Int} (hk : SH[k]? = some (.inr (4, [k + 4, 0]))) (h : hold σ (k + 1) 25 ys) (g : hold σ ks n (S.map enc)) (hS : okS S) (d : ks ≠ k ∧ ks ≠ k + 1 ∧ ks ≠ k + 2 ∧ ks + 1 ≠ k ∧ ks + 1 ≠ k + 2) : am_Ev SH mX5_wouldBeClean 3 [.ref k, .ref ks] σ (am_rI (fun x σ2 => ((x = 1 ∧ ¬ Rem S []) ∨ (x = 0 ∧ Rem S [])) ∧ (∃ zs, hold σ2 (k + 1) 25 zs) ∧ am_off [k, k + 1, k + 2] σ σ2)) := by
  have hk1 := h.1
  have loop : ∀ (m : Nat) (i : Nat) (ws1 : List (List Int)) (σ1 : am_St), 26 - i < m → i ≤ ws1.length → rmd σ1 k ws1 → rmL S ws1 → am_off [k, k + 1, k + 2] σ σ1 → (∀ w, rm_st S w → w ∈ ws1) → (∀ j (hj : j < ws1.length), j < i → ws1[j] ≠ [] → ∀ w, rm_nx S ws1[j] w → w ∈ ws1) → am_Go SH mX5_wouldBeClean 3 (am_rI (fun x σ2 => ((x = 1 ∧ ¬ Rem S []) ∨ (x = 0 ∧ Rem S [])) ∧ (∃ zs, hold σ2 (k + 1) 25 zs) ∧ am_off [k, k + 1, k + 2] σ σ2)) 7 [some (.ref k), some (.ref ks), some (.int (iZ i))] [] σ1 := by
    intro m
    induction m with
    | zero => intro i ws1 σ1 hm hi hr hl; have := Rem_len hS hl.1 hl.2; exact absurd hm (by omega)
    | succ m ih =>
      intro i ws1 σ1 hm hi hr hl ho hst hin
      have g' := g.off ho (by simp; omega) (by simp; omega)
      have h25 := Rem_len hS hl.1 hl.2
      by_cases hlt : i < ws1.length
      · have eg : ws1.getD i [] = ws1[i] := by rw [List.getD_eq_getElem?_getD, List.getElem?_eq_getElem hlt]; rfl
        refine go_iload_n dX5_wouldBeClean_7 rfl ?_
        refine go_aload_n dX5_wouldBeClean_8 rfl ?_
        refine go_getr fl_X5_14 dX5_wouldBeClean_9 hk rfl ?_
        refine go_cvP0 (M2 := mX1_size) dX5_wouldBeClean_12 ml_X5_28 mv_X1_size hk1 rfl rfl (Nat.le_of_ble_eq_true rfl) (by decide) (ev_X1_size hr.1) ?_
        rw [List.length_map]
        refine go_icmp_ge (tgt := 52) dX5_wouldBeClean_15 (by decide) (by unfold inR; omega) (by unfold inR; omega) (fun b15 => ?_) (fun b15 => ?_)
        · skip
          exact absurd b15 (by omega)
        · skip
          refine go_iload_n dX5_wouldBeClean_18 rfl ?_
          refine go_bipush dX5_wouldBeClean_19 rfl ?_
          refine go_icmp_ge (tgt := 52) dX5_wouldBeClean_21 (by decide) (by unfold inR; omega) (by unfold inR; omega) (fun b21 => ?_) (fun b21 => ?_)
          · skip
            exact absurd b21 (by omega)
          · skip
            refine go_aload_n dX5_wouldBeClean_24 rfl ?_
            refine go_geti fl_X5_20 dX5_wouldBeClean_25 hk rfl ?_
            rw [hr.2.1]
            refine go_if_eq (tgt := 33) dX5_wouldBeClean_28 (by decide) (by unfold inR; split <;> omega) (fun b28 => ?_) (fun b28 => ?_)
            · skip
              refine go_aload_n dX5_wouldBeClean_33 rfl ?_
              refine go_aload_n dX5_wouldBeClean_34 rfl ?_
              refine go_getr fl_X5_14 dX5_wouldBeClean_35 hk rfl ?_
              refine go_iload_n dX5_wouldBeClean_38 rfl ?_
              refine go_cvP1 (M2 := mX1_at) dX5_wouldBeClean_39 ml_X5_32 mv_X1_at hk1 rfl rfl (Nat.le_of_ble_eq_true rfl) (by decide) (ev_X1_at hr.1 (by unfold inR; omega)) ?_
              rw [ln_at_map (by omega) (by omega), Int.toNat_natCast, eg]
              refine go_aload_n dX5_wouldBeClean_42 rfl ?_
              refine go_cvV2 (M2 := mX5_follow) dX5_wouldBeClean_43 ml_X5_36 mv_X5_follow hk rfl rfl (Nat.le_of_ble_eq_true rfl) (by decide) (ev_X5_follow hk hr g' hS hl (hl.2 _ (List.getElem_mem hlt)) d) (fun σ2 hq => ?_)
              refine go_inc2 dX5_wouldBeClean_46 (Nat.le_of_ble_eq_true rfl) rfl ?_
              refine go_goto (tgt := 7) dX5_wouldBeClean_49 (by decide) ?_
              obtain ⟨ws2, a1, a2, a3, a4, a5⟩ := hq
              rw [show (i : Int) + 1 = ((i + 1 : Nat) : Int) by omega]
              have hle := a3.length_le
              refine ih (i + 1) ws2 σ2 (by omega) (by omega) a1 a2 (ho.tr a5) (fun w hw => a3.subset (hst w hw)) (fun j hj hji hne w hw => ?_)
              have ej : ws2[j] = ws1[j]'(by omega) := (a3.getElem (by omega)).symm
              by_cases hje : j = i
              · subst hje; rw [ej] at hne hw; exact a4 hne w hw
              · rw [ej] at hne hw; exact a3.subset (hin j (by omega) (by omega) hne w hw)
            · skip
              refine go_iconst dX5_wouldBeClean_31 ?_
              refine go_retZ dX5_wouldBeClean_32 rfl (by omega) ?_
              refine ⟨Or.inr ⟨rfl, ?_⟩, ⟨_, hr.1⟩, ho⟩
              by_cases q : ([] : List Int) ∈ ws1
              · exact hl.2 _ q
              · rw [if_neg q] at b28; exact absurd rfl b28
      · have hcl : ∀ w, w ∈ ws1 ↔ Rem S w := fun w => ⟨fun q => hl.2 w q, fun q => rm_close hst (fun v hv hne w hw => by
            obtain ⟨j, hj, rfl⟩ := List.getElem_of_mem hv
            exact hin j hj (by omega) hne w hw) q⟩
        refine go_iload_n dX5_wouldBeClean_7 rfl ?_
        refine go_aload_n dX5_wouldBeClean_8 rfl ?_
        refine go_getr fl_X5_14 dX5_wouldBeClean_9 hk rfl ?_
        refine go_cvP0 (M2 := mX1_size) dX5_wouldBeClean_12 ml_X5_28 mv_X1_size hk1 rfl rfl (Nat.le_of_ble_eq_true rfl) (by decide) (ev_X1_size hr.1) ?_
        rw [List.length_map]
        refine go_icmp_ge (tgt := 52) dX5_wouldBeClean_15 (by decide) (by unfold inR; omega) (by unfold inR; omega) (fun b15 => ?_) (fun b15 => ?_)
        · skip
          refine go_aload_n dX5_wouldBeClean_52 rfl ?_
          refine go_geti fl_X5_20 dX5_wouldBeClean_53 hk rfl ?_
          rw [hr.2.1]
          refine go_if_ne (tgt := 63) dX5_wouldBeClean_56 (by decide) (by unfold inR; split <;> omega) (fun b56 => ?_) (fun b56 => ?_)
          · skip
            refine go_iconst dX5_wouldBeClean_63 ?_
            refine go_retZ dX5_wouldBeClean_64 rfl (by omega) ?_
            refine ⟨?_, ⟨_, hr.1⟩, ho⟩
            by_cases q : ([] : List Int) ∈ ws1
            · first | exact Or.inr ⟨rfl, (hcl _).mp q⟩ | (rw [if_pos q] at b56; omega)
            · first | exact Or.inl ⟨rfl, fun z => q ((hcl _).mpr z)⟩ | (rw [if_neg q] at b56; omega)
          · skip
            refine go_iconst dX5_wouldBeClean_59 ?_
            refine go_goto (tgt := 64) dX5_wouldBeClean_60 (by decide) ?_
            refine go_retZ dX5_wouldBeClean_64 rfl (by omega) ?_
            refine ⟨?_, ⟨_, hr.1⟩, ho⟩
            by_cases q : ([] : List Int) ∈ ws1
            · first | exact Or.inr ⟨rfl, (hcl _).mp q⟩ | (rw [if_pos q] at b56; omega)
            · first | exact Or.inl ⟨rfl, fun z => q ((hcl _).mpr z)⟩ | (rw [if_neg q] at b56; omega)
        · skip
          exact absurd b15 (by omega)
  refine am_ev (by decide) [some (.ref k), some (.ref ks), none] rfl (Nat.le_of_ble_eq_true rfl) ?_
  refine go_aload_n dX5_wouldBeClean_0 rfl ?_
  refine go_aload_n dX5_wouldBeClean_1 rfl ?_
  refine go_cvV1 (M2 := mX5_start) dX5_wouldBeClean_2 ml_X5_24 mv_X5_start hk rfl rfl (Nat.le_of_ble_eq_true rfl) (by decide) (ev_X5_start hk h g hS d) (fun σ1 hq => ?_)
  refine go_iconst dX5_wouldBeClean_5 ?_
  refine go_ist2 dX5_wouldBeClean_6 (Nat.le_of_ble_eq_true rfl) rfl ?_
  obtain ⟨ws1, a1, a2, a3, a4⟩ := hq
  exact loop 27 0 ws1 σ1 (by omega) (by omega) a1 a2 a4 a3 (fun j hj hj0 => absurd hj0 (by omega))
