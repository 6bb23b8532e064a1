/-! ===== Clashes: findTexts ===== -/
theorem txI.pa {S ws : List (List Int)} {τ : Nat → List Int} {L : List Nat} (h : txI S ws τ L) {i : Nat} (hi : i < ws.length) (hne : τ i ≠ []) : Pa S (τ i) ws[i] := by
  have := (h.2.2 i hne).2.1
  rwa [List.getD_eq_getElem?_getD, List.getElem?_eq_getElem hi] at this
theorem stOK.mono {S ws : List (List Int)} {τ τ' : Nat → List Int} {L : List Nat} (h : stOK S ws τ) (hl : tle τ τ') (hI : txI S ws τ' L) : stOK S ws τ' := ⟨fun i hi hne => hI.pa hi hne, fun i j a b h1 h2 h3 h4 m hm h5 => by
    have x := h.2 i j a b h1 h2 h3 h4 m hm h5
    have y := hl m x.1
    exact ⟨y.1, by omega⟩⟩
theorem passOK_of {S ws : List (List Int)} {τ τ' : Nat → List Int} {L : List Nat} (hl : tle τ τ') (hI : txI S ws τ' L) (ho : ∀ j (hj : j < ws.length), Lst S ws[j] (τ j) → ws[j] ≠ [] → offd S ws (τ j) ws[j] τ' S.length) : passOK S ws τ τ' := ⟨fun i _ hne => hl i hne, fun i hi hne => hI.pa hi hne, fun i hi hL hne s hs j hj => by
    obtain ⟨r, hr, rfl⟩ := List.getElem_of_mem hs
    exact ho i hi hL hne r hr hr j hj⟩
theorem ev_X0_findTexts {σ : am_St} {ks n : Nat} {S ws : List (List Int)} (hS : okS S) (hw : rmL S ws) (hwA : ∀ w, w ∈ ws ↔ Rem S w) (g : hold σ ks n (S.map enc)) (hks : ks + 1 < 40) (c1 : hold σ 45 25 (ws.map enc)) (c2 : ∀ i, i < 25 → ∃ ys, hold σ (54 + 2 * i) 56 ys) (c4 : ∃ o, hold σ 104 56 o) : am_Ev SH mX0_findTexts 3 [.ref 43, .ref ks] σ (am_rV (fun σ2 => ∃ τ, txs σ2 τ ∧ (∀ i (hi : i < ws.length), Lst S ws[i] (τ i)) ∧ (∃ o, hold σ2 104 56 o) ∧ am_off TXO σ σ2)) := by
  have h25 := Rem_len hS hw.1 hw.2
  have hks1 := g.1
  have outer : ∀ (m : Nat) (ps : Nat) (ch : Int) (τ : Nat → List Int) (L : List Nat) (σ1 : am_St) (w4 : Option Value), 25 - ps < m → ps ≤ 25 → clI σ1 S ws τ L → stOK S ws τ → nfn S ws τ + ps ≤ 25 → (ch = 0 ∨ ch = 1) → (ch = 0 → nfn S ws τ = 0) → am_off TXO σ σ1 → am_Go SH mX0_findTexts 3 (am_rV (fun σ2 => ∃ τ, txs σ2 τ ∧ (∀ i (hi : i < ws.length), Lst S ws[i] (τ i)) ∧ (∃ o, hold σ2 104 56 o) ∧ am_off TXO σ σ2)) 32 [some (.ref 43), some (.ref ks), some (.int (iZ ch)), some (.int (iZ ps)), w4] [] σ1 := by
    intro m
    induction m with
    | zero => intro ps ch τ L σ1 w4 hm; exact absurd hm (by omega)
    | succ m ih =>
      intro ps ch τ L σ1 w4 hm hps hc hst hnf hch hch0 ho
      have fin : nfn S ws τ = 0 → ∃ τ, txs σ1 τ ∧ (∀ i (hi : i < ws.length), Lst S ws[i] (τ i)) ∧ (∃ o, hold σ1 104 56 o) ∧ am_off TXO σ σ1 := fun z => ⟨τ, hc.2.1, fun i hi => nfn_0 z hi, hc.2.2.2, ho⟩
      have inner : ∀ (m2 : Nat) (i : Nat) (ch1 : Int) (τ1 : Nat → List Int) (L1 : List Nat) (σ2 : am_St), ps < 25 → ws.length - i < m2 → i ≤ ws.length → clI σ2 S ws τ1 L1 → tle τ τ1 → (ch1 = 1 ∨ (ch1 = 0 ∧ τ1 = τ)) → (∀ j (hj : j < ws.length), j < i → Lst S ws[j] (τ j) → ws[j] ≠ [] → offd S ws (τ j) ws[j] τ1 S.length) → am_off TXO σ σ2 → am_Go SH mX0_findTexts 3 (am_rV (fun σ2 => ∃ τ, txs σ2 τ ∧ (∀ i (hi : i < ws.length), Lst S ws[i] (τ i)) ∧ (∃ o, hold σ2 104 56 o) ∧ am_off TXO σ σ2)) 47 [some (.ref 43), some (.ref ks), some (.int (iZ ch1)), some (.int (iZ ps)), some (.int (iZ i))] [] σ2 := by
        intro m2
        induction m2 with
        | zero => intro i ch1 τ1 L1 σ2 _ hm2; exact absurd hm2 (by omega)
        | succ m2 ih2 =>
          intro i ch1 τ1 L1 σ2 hps2 hm2 hi hc1 hl1 hch1 hof ho2
          have hch01 : ch1 = 0 ∨ ch1 = 1 := by rcases hch1 with z | z; exact Or.inr z; exact Or.inl z.1
          by_cases hlt : i < ws.length
          · have g' := g.off ho2 (by rw [TXO_mem]; omega) (by rw [TXO_mem]; omega)
            refine go_iload dX0_findTexts_47 rfl ?_
            refine go_aload_n dX0_findTexts_49 rfl ?_
            refine go_getr fl_X0_12 dX0_findTexts_50 sh_43 rfl ?_
            refine go_getr fl_X0_47 dX0_findTexts_53 sh_44 rfl ?_
            refine go_cvP0 (M2 := mX1_size) dX0_findTexts_56 ml_X0_50 mv_X1_size hc1.1.1 rfl rfl (Nat.le_of_ble_eq_true rfl) (by decide) (ev_X1_size hc1.1) ?_
            rw [List.length_map]
            refine go_icmp_ge (tgt := 78) dX0_findTexts_59 (by decide) (by unfold inR; omega) (by unfold inR; omega) (fun b59 => ?_) (fun b59 => ?_)
            · skip
              exact absurd b59 (by omega)
            · skip
              refine go_iload_n dX0_findTexts_62 rfl ?_
              refine go_aload_n dX0_findTexts_63 rfl ?_
              refine go_aload_n dX0_findTexts_64 rfl ?_
              refine go_iload dX0_findTexts_65 rfl ?_
              refine go_cvI2 (M2 := mX0_followText) dX0_findTexts_67 ml_X0_85 mv_X0_followText sh_43 rfl rfl (Nat.le_of_ble_eq_true rfl) (by decide) (ev_X0_followText hS hw (fun w hx => (hwA w).mpr hx) g' hc1 hks hlt) (fun x σ3 hq => ?_)
              obtain ⟨τ2, L2, d1, d2, d3, d4, d5⟩ := hq
              have hx01 : x = 0 ∨ x = 1 := by rcases d3 with z | z; exact Or.inr z; exact Or.inl z.1
              refine go_ior dX0_findTexts_70 ?_
              rw [am_or01 hch01 hx01]
              refine go_ist2 dX0_findTexts_71 (Nat.le_of_ble_eq_true rfl) rfl ?_
              refine go_inc4 dX0_findTexts_72 (Nat.le_of_ble_eq_true rfl) rfl ?_
              refine go_goto (tgt := 47) dX0_findTexts_75 (by decide) ?_
              rw [show (i : Int) + 1 = ((i + 1 : Nat) : Int) by omega]
              refine ih2 (i + 1) _ τ2 L2 σ3 hps2 (by omega) (by omega) d1 (hl1.tr d2) ?_ (fun j hj hji hL hne => ?_) (ho2.tr d5)
              · by_cases hcc : ch1 = 0 ∧ x = 0
                · rw [if_pos hcc]; refine Or.inr ⟨rfl, ?_⟩; rcases d3 with z | z; omega; rcases hch1 with y | y; omega; rw [z.2, y.2]
                · rw [if_neg hcc]; exact Or.inl rfl
              · by_cases hje : j = i
                · subst hje
                  have hne1 : τ j ≠ [] := fun z => by have := (hL.1.ok hS).2; rw [z] at this; simp at this
                  have y1 := hl1 j hne1
                  have e1 : τ1 j = τ j := hL.eq hS (hc1.2.2.1.pa hj y1.1) y1.2
                  have := d4 (by rw [e1]; exact hL) hne
                  rwa [e1] at this
                · exact (hof j hj (by omega) hL hne).mono d2
          · have hpass : passOK S ws τ τ1 := passOK_of hl1 hc1.2.2.1 (fun j hj hL hne => hof j hj (by omega) hL hne)
            have hdec : nfn S ws τ ≠ 0 → nfn S ws τ1 < nfn S ws τ := fun z => pass_dec hS hwA hst hpass z
            have hn1 : nfn S ws τ1 + (ps + 1) ≤ 25 ∨ nfn S ws τ1 = 0 := by
              by_cases z : nfn S ws τ = 0
              · refine Or.inr ?_
                have : ∀ i, fnl S ws τ i = true → fnl S ws τ1 i = true := fun i hf => (pass_fin hS hpass hf).2
                unfold nfn at z ⊢
                rw [List.countP_eq_zero] at z ⊢
                intro i hi2 hf
                refine z i hi2 ?_
                cases hfm : fnl S ws τ i with
                | true => have := this i hfm; rw [this] at hf; exact absurd hf (by decide)
                | false => rfl
              · have := hdec z; exact Or.inl (by omega)
            refine go_iload dX0_findTexts_47 rfl ?_
            refine go_aload_n dX0_findTexts_49 rfl ?_
            refine go_getr fl_X0_12 dX0_findTexts_50 sh_43 rfl ?_
            refine go_getr fl_X0_47 dX0_findTexts_53 sh_44 rfl ?_
            refine go_cvP0 (M2 := mX1_size) dX0_findTexts_56 ml_X0_50 mv_X1_size hc1.1.1 rfl rfl (Nat.le_of_ble_eq_true rfl) (by decide) (ev_X1_size hc1.1) ?_
            rw [List.length_map]
            refine go_icmp_ge (tgt := 78) dX0_findTexts_59 (by decide) (by unfold inR; omega) (by unfold inR; omega) (fun b59 => ?_) (fun b59 => ?_)
            · skip
              refine go_inc3 dX0_findTexts_78 (Nat.le_of_ble_eq_true rfl) rfl ?_
              refine go_goto (tgt := 32) dX0_findTexts_81 (by decide) ?_
              rw [show (ps : Int) + 1 = ((ps + 1 : Nat) : Int) by omega]
              refine ih (ps + 1) ch1 τ1 L1 σ2 _ (by omega) (by omega) hc1 (hst.mono hl1 hc1.2.2.1) (by rcases hn1 with z | z <;> omega) hch01 (fun z => ?_) ho2
              rcases hch1 with y | y
              · omega
              · apply Classical.byContradiction
                intro z2
                rw [y.2] at z2 hdec
                have := hdec z2
                omega
            · skip
              exact absurd b59 (by omega)
      refine go_iload_n dX0_findTexts_32 rfl ?_
      refine go_bipush dX0_findTexts_33 rfl ?_
      refine go_icmp_ge (tgt := 84) dX0_findTexts_35 (by decide) (by unfold inR; omega) (by unfold inR; omega) (fun b35 => ?_) (fun b35 => ?_)
      · skip
        refine go_retV dX0_findTexts_84 rfl ?_
        first | exact fin (hch0 b39) | exact fin (by omega)
      · skip
        refine go_iload_n dX0_findTexts_38 rfl ?_
        refine go_if_eq (tgt := 84) dX0_findTexts_39 (by decide) (by rcases hch with z | z <;> rw [z] <;> unfold inR <;> omega) (fun b39 => ?_) (fun b39 => ?_)
        · skip
          refine go_retV dX0_findTexts_84 rfl ?_
          first | exact fin (hch0 b39) | exact fin (by omega)
        · skip
          refine go_iconst dX0_findTexts_42 ?_
          refine go_ist2 dX0_findTexts_43 (Nat.le_of_ble_eq_true rfl) rfl ?_
          refine go_iconst dX0_findTexts_44 ?_
          refine go_ist4 dX0_findTexts_45 (Nat.le_of_ble_eq_true rfl) rfl ?_
          exact inner (ws.length + 1) 0 0 τ L σ1 (by omega) (by omega) (by omega) hc tle.rf (Or.inr ⟨rfl, rfl⟩) (fun j hj h1 => absurd h1 (by omega)) ho
  have clr : ∀ (m : Nat) (i : Nat) (σ1 : am_St), 25 - i < m → i ≤ 25 → (∀ j, j < 25 → ∃ ys, hold σ1 (54 + 2 * j) 56 ys ∧ (j < i → ys = [])) → am_off TXO σ σ1 → (∃ o, hold σ1 104 56 o) → hold σ1 45 25 (ws.map enc) → am_Go SH mX0_findTexts 3 (am_rV (fun σ2 => ∃ τ, txs σ2 τ ∧ (∀ i (hi : i < ws.length), Lst S ws[i] (τ i)) ∧ (∃ o, hold σ2 104 56 o) ∧ am_off TXO σ σ2)) 2 [some (.ref 43), some (.ref ks), some (.int (iZ i)), none, none] [] σ1 := by
    intro m
    induction m with
    | zero => intro i σ1 hm; exact absurd hm (by omega)
    | succ m ih =>
      intro i σ1 hm hi hh ho h104 h45
      by_cases hlt : i < 25
      · obtain ⟨ys, hy, -⟩ := hh i hlt
        refine go_iload_n dX0_findTexts_2 rfl ?_
        refine go_bipush dX0_findTexts_3 rfl ?_
        refine go_icmp_ge (tgt := 23) dX0_findTexts_5 (by decide) (by unfold inR; omega) (by unfold inR; omega) (fun b5 => ?_) (fun b5 => ?_)
        · skip
          exact absurd b5 (by omega)
        · skip
          refine go_aload_n dX0_findTexts_8 rfl ?_
          refine go_getr fl_X0_33 dX0_findTexts_9 sh_43 rfl ?_
          refine go_iload_n dX0_findTexts_12 rfl ?_
          refine go_aaload dX0_findTexts_13 sh_53 (by first | assumption | exact Nat.le_of_ble_eq_true rfl) (by omega) (by omega) (tx_g hlt) ?_
          refine go_cvV0 (M2 := mX1_clear) dX0_findTexts_14 ml_X0_65 mv_X1_clear hy.1 rfl rfl (Nat.le_of_ble_eq_true rfl) (by decide) (ev_X1_clear hy) (fun σ2 hq => ?_)
          refine go_inc2 dX0_findTexts_17 (Nat.le_of_ble_eq_true rfl) rfl ?_
          refine go_goto (tgt := 2) dX0_findTexts_20 (by decide) ?_
          rw [show (i : Int) + 1 = ((i + 1 : Nat) : Int) by omega]
          have o2 : am_off TXO σ1 σ2 := hq.2.wk (fun p hp => by rw [TXO_mem]; simp at hp; omega)
          obtain ⟨o4, h104⟩ := h104
          refine ih (i + 1) σ2 (by omega) (by omega) (fun j hj => ?_) (ho.tr o2) ⟨o4, h104.off hq.2 (by simp; omega) (by simp; omega)⟩ (h45.off hq.2 (by simp; omega) (by simp; omega))
          by_cases hje : j = i
          · exact ⟨[], by rw [hje]; exact hq.1, fun _ => rfl⟩
          · obtain ⟨zs, z1, z2⟩ := hh j hj
            exact ⟨zs, z1.off hq.2 (by simp; omega) (by simp; omega), fun z3 => z2 (by omega)⟩
      · have ht0 : txs σ1 (fun _ => []) := fun j hj => by obtain ⟨zs, z1, z2⟩ := hh j hj; rw [z2 (by omega)] at z1; exact z1
        have hI0 : txI S ws (fun _ => []) [] := ⟨List.nodup_nil, fun m hm => by simp at hm, fun i hi => absurd rfl hi⟩
        refine go_iload_n dX0_findTexts_2 rfl ?_
        refine go_bipush dX0_findTexts_3 rfl ?_
        refine go_icmp_ge (tgt := 23) dX0_findTexts_5 (by decide) (by unfold inR; omega) (by unfold inR; omega) (fun b5 => ?_) (fun b5 => ?_)
        · skip
          refine go_aload_n dX0_findTexts_23 rfl ?_
          refine go_aload_n dX0_findTexts_24 rfl ?_
          refine go_cvV1 (M2 := mX0_startTexts) dX0_findTexts_25 ml_X0_82 mv_X0_startTexts sh_43 rfl rfl (Nat.le_of_ble_eq_true rfl) (by decide) (ev_X0_startTexts hS hw (fun w hx => (hwA w).mpr hx) (g.off ho (by rw [TXO_mem]; omega) (by rw [TXO_mem]; omega)) ⟨h45, ht0, hI0, h104⟩ hks) (fun σ2 hq => ?_)
          obtain ⟨τ, L, d1, d2, d3⟩ := hq
          refine go_iconst dX0_findTexts_28 ?_
          refine go_ist2 dX0_findTexts_29 (Nat.le_of_ble_eq_true rfl) rfl ?_
          refine go_iconst dX0_findTexts_30 ?_
          refine go_ist3 dX0_findTexts_31 (Nat.le_of_ble_eq_true rfl) rfl ?_
          exact outer 26 0 1 τ L σ2 none (by omega) (by omega) d1 ⟨fun i hi hne => d1.2.2.1.pa hi hne, d2⟩ (by have := nfn_le S ws τ; omega) (Or.inr rfl) (fun z => absurd z (by omega)) (ho.tr d3)
        · skip
          exact absurd b5 (by omega)
  refine am_ev (by decide) [some (.ref 43), some (.ref ks), none, none, none] rfl (Nat.le_of_ble_eq_true rfl) ?_
  refine go_iconst dX0_findTexts_0 ?_
  refine go_ist2 dX0_findTexts_1 (Nat.le_of_ble_eq_true rfl) rfl ?_
  exact clr 26 0 σ (by omega) (by omega) (fun j hj => by obtain ⟨ys, hy⟩ := c2 j hj; exact ⟨ys, hy, fun z => absurd z (by omega)⟩) am_off.rf c4 c1
