/-! ===== Clashes: startTexts, followText ===== -/
def TXO : List Nat := List.range' 54 52
theorem TXO_mem {p : Nat} : p ∈ TXO ↔ 54 ≤ p ∧ p < 106 := by unfold TXO; rw [List.mem_range'_1]
theorem TXO_of {σ σ' : am_St} (h : am_off TXL σ σ') : am_off TXO σ σ' := h.wk (fun p hp => by rw [TXL_mem] at hp; rw [TXO_mem]; omega)
theorem TXO_o {σ σ' : am_St} (h : am_off [104, 104 + 1] σ σ') : am_off TXO σ σ' := h.wk (fun p hp => by rw [TXO_mem]; simp at hp; omega)
/-- what Clashes works on: its remainders, the texts, the line that offers -/
def clI (σ : am_St) (S ws : List (List Int)) (τ : Nat → List Int) (L : List Nat) : Prop := hold σ 45 25 (ws.map enc) ∧ txs σ τ ∧ txI S ws τ L ∧ ∃ o, hold σ 104 56 o
theorem txs_o {σ σ' : am_St} {τ : Nat → List Int} (h : txs σ τ) (ho : am_off [104, 104 + 1] σ σ') : txs σ' τ := h.off ho (by simp)
theorem ev_X0_startTexts {σ : am_St} {ks n : Nat} {S ws : List (List Int)} {τ : Nat → List Int} {L : List Nat} (hS : okS S) (hw : rmL S ws) (hwA : ∀ w, Rem S w → w ∈ ws) (g : hold σ ks n (S.map enc)) (hc : clI σ S ws τ L) (hks : ks + 1 < 40) : am_Ev SH mX0_startTexts 2 [.ref 43, .ref ks] σ (am_rV (fun σ2 => ∃ τ' L', clI σ2 S ws τ' L' ∧ (∀ (i j : Nat) (a b : List Int), i ≠ j → S[i]? = some a → S[j]? = some b → a <+: b → ∀ m (hm : m < ws.length), ws[m] = b.drop a.length → τ' m ≠ [] ∧ encN (τ' m) ≤ encN b) ∧ am_off TXO σ σ2)) := by
  have hks1 := g.1
  have h8 := hS.2.2
  have inner : ∀ (a : Nat) (ha : a < S.length) (m : Nat) (i : Nat) (τ1 : Nat → List Int) (L1 : List Nat) (σ1 : am_St) (w5 : Option Value), S.length - i < m → i ≤ S.length → clI σ1 S ws τ1 L1 → am_off TXO σ σ1 → (∀ a' j (h1 : a' < S.length) (h2 : j < S.length), (a' < a ∨ (a' = a ∧ j < i)) → a' ≠ j → S[a'] <+: S[j] → ∀ m (hm : m < ws.length), ws[m] = S[j].drop S[a'].length → τ1 m ≠ [] ∧ encN (τ1 m) ≤ encN S[j]) → (∀ (τ2 : Nat → List Int) (L2 : List Nat) (σ2 : am_St) (w4 w5 : Option Value), clI σ2 S ws τ2 L2 → am_off TXO σ σ2 → (∀ a' j (h1 : a' < S.length) (h2 : j < S.length), a' < a + 1 → a' ≠ j → S[a'] <+: S[j] → ∀ m (hm : m < ws.length), ws[m] = S[j].drop S[a'].length → τ2 m ≠ [] ∧ encN (τ2 m) ≤ encN S[j]) → am_Go SH mX0_startTexts 2 (am_rV (fun σ2 => ∃ τ' L', clI σ2 S ws τ' L' ∧ (∀ (i j : Nat) (a b : List Int), i ≠ j → S[i]? = some a → S[j]? = some b → a <+: b → ∀ m (hm : m < ws.length), ws[m] = b.drop a.length → τ' m ≠ [] ∧ encN (τ' m) ≤ encN b) ∧ am_off TXO σ σ2)) 84 [some (.ref 43), some (.ref ks), some (.int (iZ a)), some (.int (iZ (enc S[a]))), w4, w5] [] σ2) → am_Go SH mX0_startTexts 2 (am_rV (fun σ2 => ∃ τ' L', clI σ2 S ws τ' L' ∧ (∀ (i j : Nat) (a b : List Int), i ≠ j → S[i]? = some a → S[j]? = some b → a <+: b → ∀ m (hm : m < ws.length), ws[m] = b.drop a.length → τ' m ≠ [] ∧ encN (τ' m) ≤ encN b) ∧ am_off TXO σ σ2)) 19 [some (.ref 43), some (.ref ks), some (.int (iZ a)), some (.int (iZ (enc S[a]))), some (.int (iZ i)), w5] [] σ1 := by
    intro a ha m
    obtain ⟨p0, p1, p2, p3, p4⟩ := get_ok hS ha
    induction m with
    | zero => intro i τ1 L1 σ1 w5 hm; exact absurd hm (by omega)
    | succ m ih =>
      intro i τ1 L1 σ1 w5 hm hi hc1 ho hin kk
      have g' := g.off ho (by rw [TXO_mem]; omega) (by rw [TXO_mem]; omega)
      obtain ⟨c1, c2, c3, ov, c4⟩ := hc1
      by_cases hlt : i < S.length
      · obtain ⟨q0, q1, q2, q3, q4⟩ := get_ok hS hlt
        have b1 := wd_be_enc q2 p2 q3 p3
        refine go_iload dX0_startTexts_19 rfl ?_
        refine go_aload_n dX0_startTexts_21 rfl ?_
        refine go_cvP0 (M2 := mX1_size) dX0_startTexts_22 ml_X0_50 mv_X1_size hks1 rfl rfl (Nat.le_of_ble_eq_true rfl) (by decide) (ev_X1_size g') ?_
        rw [List.length_map]
        refine go_icmp_ge (tgt := 84) dX0_startTexts_25 (by decide) (by unfold inR; omega) (by unfold inR; omega) (fun b25 => ?_) (fun b25 => ?_)
        · skip
          exact absurd b25 (by omega)
        · skip
          refine go_aload_n dX0_startTexts_28 rfl ?_
          refine go_iload dX0_startTexts_29 rfl ?_
          refine go_cvP1 (M2 := mX1_at) dX0_startTexts_31 ml_X0_89 mv_X1_at hks1 rfl rfl (Nat.le_of_ble_eq_true rfl) (by decide) (ev_X1_at g' (by unfold inR; omega)) ?_
          rw [ln_at_map (by omega) (by omega), Int.toNat_natCast, q0]
          refine go_ist5 dX0_startTexts_34 (Nat.le_of_ble_eq_true rfl) rfl ?_
          refine go_iload_n dX0_startTexts_36 rfl ?_
          refine go_iload dX0_startTexts_37 rfl ?_
          refine go_icmp_eq (tgt := 78) dX0_startTexts_39 (by decide) (by unfold inR; omega) (by unfold inR; omega) (fun b39 => ?_) (fun b39 => ?_)
          · skip
            refine go_inc4 dX0_startTexts_78 (Nat.le_of_ble_eq_true rfl) rfl ?_
            refine go_goto (tgt := 19) dX0_startTexts_81 (by decide) ?_
            rw [show (i : Int) + 1 = ((i + 1 : Nat) : Int) by omega]
            first
              | (obtain ⟨τ', L', d1, d2, d3, d4, d5, d6⟩ := hq4
                 refine ih (i + 1) τ' L' _ _ (by omega) (by omega) ⟨(c1.off o3 (by decide) (by decide)).off d6 (by rw [TXL_mem]; omega) (by rw [TXL_mem]; omega), d1, d2, _, hq3.1.off d6 (by rw [TXL_mem]; omega) (by rw [TXL_mem]; omega)⟩ ((ho.tr (TXO_o o3)).tr (TXO_of d6)) (fun a' j z1 z2 z3 z4 z5 m2 z6 z7 => ?_) kk
                 by_cases hje : a' = a ∧ j = i
                 · obtain ⟨e1, e2⟩ := hje; subst e1; subst e2; exact d4 m2 (by rw [← z7]; exact List.getElem?_eq_getElem z6)
                 · have y1 := hin a' j z1 z2 (by omega) z4 z5 m2 z6 z7
                   have y2 := d3 m2 y1.1
                   exact ⟨y2.1, by omega⟩)
              | exact ih (i + 1) _ _ _ _ (by omega) (by omega) ⟨c1, c2, c3, ov, c4⟩ ho (fun a' j z1 z2 z3 z4 z5 => by
                  by_cases hje : a' = a ∧ j = i
                  · obtain ⟨e1, e2⟩ := hje; subst e1; subst e2; first | exact absurd z5 np | omega
                  · exact hin a' j z1 z2 (by omega) z4 z5) kk
          · skip
            refine go_iload dX0_startTexts_42 rfl ?_
            refine go_iload_n dX0_startTexts_44 rfl ?_
            refine go_csP2 (M2 := mX9_begins) dX0_startTexts_45 ml_X0_93 ms_X9_begins (Nat.le_of_ble_eq_true rfl) (by decide) (ev_X9_begins (enc_inR q2 q3) (enc_inR p2 p3)) ?_
            rw [b1]
            refine go_if_eq (tgt := 78) dX0_startTexts_48 (by decide) (by unfold inR; split <;> omega) (fun b48 => ?_) (fun b48 => ?_)
            · skip
              have np : ¬ S[a] <+: S[i] := fun z => by rw [if_pos z] at b48; omega
              refine go_inc4 dX0_startTexts_78 (Nat.le_of_ble_eq_true rfl) rfl ?_
              refine go_goto (tgt := 19) dX0_startTexts_81 (by decide) ?_
              rw [show (i : Int) + 1 = ((i + 1 : Nat) : Int) by omega]
              first
                | (obtain ⟨τ', L', d1, d2, d3, d4, d5, d6⟩ := hq4
                   refine ih (i + 1) τ' L' _ _ (by omega) (by omega) ⟨(c1.off o3 (by decide) (by decide)).off d6 (by rw [TXL_mem]; omega) (by rw [TXL_mem]; omega), d1, d2, _, hq3.1.off d6 (by rw [TXL_mem]; omega) (by rw [TXL_mem]; omega)⟩ ((ho.tr (TXO_o o3)).tr (TXO_of d6)) (fun a' j z1 z2 z3 z4 z5 m2 z6 z7 => ?_) kk
                   by_cases hje : a' = a ∧ j = i
                   · obtain ⟨e1, e2⟩ := hje; subst e1; subst e2; exact d4 m2 (by rw [← z7]; exact List.getElem?_eq_getElem z6)
                   · have y1 := hin a' j z1 z2 (by omega) z4 z5 m2 z6 z7
                     have y2 := d3 m2 y1.1
                     exact ⟨y2.1, by omega⟩)
                | exact ih (i + 1) _ _ _ _ (by omega) (by omega) ⟨c1, c2, c3, ov, c4⟩ ho (fun a' j z1 z2 z3 z4 z5 => by
                    by_cases hje : a' = a ∧ j = i
                    · obtain ⟨e1, e2⟩ := hje; subst e1; subst e2; first | exact absurd z5 np | omega
                    · exact hin a' j z1 z2 (by omega) z4 z5) kk
            · skip
              have hp : S[a] <+: S[i] := by
                apply Classical.byContradiction
                intro z
                rw [if_neg z] at b48
                omega
              have hai : a ≠ i := by omega
              have hP : Pa S S[i] (S[i].drop S[a].length) := Pa.st hai (List.getElem?_eq_getElem ha) (List.getElem?_eq_getElem hlt) hp
              refine go_aload_n dX0_startTexts_51 rfl ?_
              refine go_getr fl_X0_37 dX0_startTexts_52 sh_43 rfl ?_
              refine go_cvV0 (M2 := mX1_clear) dX0_startTexts_55 ml_X0_65 mv_X1_clear c4.1 rfl rfl (Nat.le_of_ble_eq_true rfl) (by decide) (ev_X1_clear c4) (fun σ2 hq2 => ?_)
              refine go_aload_n dX0_startTexts_58 rfl ?_
              refine go_getr fl_X0_37 dX0_startTexts_59 sh_43 rfl ?_
              refine go_iload dX0_startTexts_62 rfl ?_
              refine go_cvV1 (M2 := mX1_addWord) dX0_startTexts_64 ml_X0_99 mv_X1_addWord c4.1 rfl rfl (Nat.le_of_ble_eq_true rfl) (by decide) (ev_X1_addWord hq2.1 (enc_inR q2 q3) (by rw [wd_sz_enc q2 q3]; simp; omega)) (fun σ3 hq3 => ?_)
              rw [wd_sz_enc q2 q3, Int.toNat_natCast, wd_cs_enc q2 q3, List.nil_append] at hq3
              have o3 : am_off [104, 104 + 1] σ1 σ3 := hq2.2.tr hq3.2
              refine go_aload_n dX0_startTexts_67 rfl ?_
              refine go_iload dX0_startTexts_68 rfl ?_
              refine go_iload_n dX0_startTexts_70 rfl ?_
              refine go_csP2 (M2 := mX9_behind) dX0_startTexts_71 ml_X0_102 ms_X9_behind (Nat.le_of_ble_eq_true rfl) (by decide) (ev_X9_behind (enc_inR q2 q3) (enc_inR p2 p3)) ?_
              rw [wd_hi_enc q2 p2 q3 p3 hp]
              refine go_cvI1 (M2 := mX0_take) dX0_startTexts_74 ml_X0_106 mv_X0_take sh_43 rfl rfl (Nat.le_of_ble_eq_true rfl) (by decide) (ev_X0_offer hS hw (c1.off o3 (by decide) (by decide)) (txs_o c2 o3) c3 hq3.1 hP (hwA _ hP.rem) (Or.inr q3)) (fun x σ4 hq4 => ?_)
              refine go_pop dX0_startTexts_77 rfl ?_
              refine go_inc4 dX0_startTexts_78 (Nat.le_of_ble_eq_true rfl) rfl ?_
              refine go_goto (tgt := 19) dX0_startTexts_81 (by decide) ?_
              rw [show (i : Int) + 1 = ((i + 1 : Nat) : Int) by omega]
              first
                | (obtain ⟨τ', L', d1, d2, d3, d4, d5, d6⟩ := hq4
                   refine ih (i + 1) τ' L' _ _ (by omega) (by omega) ⟨(c1.off o3 (by decide) (by decide)).off d6 (by rw [TXL_mem]; omega) (by rw [TXL_mem]; omega), d1, d2, _, hq3.1.off d6 (by rw [TXL_mem]; omega) (by rw [TXL_mem]; omega)⟩ ((ho.tr (TXO_o o3)).tr (TXO_of d6)) (fun a' j z1 z2 z3 z4 z5 m2 z6 z7 => ?_) kk
                   by_cases hje : a' = a ∧ j = i
                   · obtain ⟨e1, e2⟩ := hje; subst e1; subst e2; exact d4 m2 (by rw [← z7]; exact List.getElem?_eq_getElem z6)
                   · have y1 := hin a' j z1 z2 (by omega) z4 z5 m2 z6 z7
                     have y2 := d3 m2 y1.1
                     exact ⟨y2.1, by omega⟩)
                | exact ih (i + 1) _ _ _ _ (by omega) (by omega) ⟨c1, c2, c3, ov, c4⟩ ho (fun a' j z1 z2 z3 z4 z5 => by
                    by_cases hje : a' = a ∧ j = i
                    · obtain ⟨e1, e2⟩ := hje; subst e1; subst e2; first | exact absurd z5 np | omega
                    · exact hin a' j z1 z2 (by omega) z4 z5) kk
      · skip
        refine go_iload dX0_startTexts_19 rfl ?_
        refine go_aload_n dX0_startTexts_21 rfl ?_
        refine go_cvP0 (M2 := mX1_size) dX0_startTexts_22 ml_X0_50 mv_X1_size hks1 rfl rfl (Nat.le_of_ble_eq_true rfl) (by decide) (ev_X1_size g') ?_
        rw [List.length_map]
        refine go_icmp_ge (tgt := 84) dX0_startTexts_25 (by decide) (by unfold inR; omega) (by unfold inR; omega) (fun b25 => ?_) (fun b25 => ?_)
        · skip
          exact kk _ _ _ _ _ ⟨c1, c2, c3, ov, c4⟩ ho (fun a' j z1 z2 z3 z4 z5 => hin a' j z1 z2 (by omega) z4 z5)
        · skip
          exact absurd b25 (by omega)
  have outer : ∀ (m : Nat) (a : Nat) (τ1 : Nat → List Int) (L1 : List Nat) (σ1 : am_St), S.length - a < m → a ≤ S.length → clI σ1 S ws τ1 L1 → am_off TXO σ σ1 → (∀ a' j (h1 : a' < S.length) (h2 : j < S.length), a' < a → a' ≠ j → S[a'] <+: S[j] → ∀ m (hm : m < ws.length), ws[m] = S[j].drop S[a'].length → τ1 m ≠ [] ∧ encN (τ1 m) ≤ encN S[j]) → am_Go SH mX0_startTexts 2 (am_rV (fun σ2 => ∃ τ' L', clI σ2 S ws τ' L' ∧ (∀ (i j : Nat) (a b : List Int), i ≠ j → S[i]? = some a → S[j]? = some b → a <+: b → ∀ m (hm : m < ws.length), ws[m] = b.drop a.length → τ' m ≠ [] ∧ encN (τ' m) ≤ encN b) ∧ am_off TXO σ σ2)) 2 [some (.ref 43), some (.ref ks), some (.int (iZ a)), none, none, none] [] σ1 := by
    intro m
    induction m with
    | zero => intro a τ1 L1 σ1 hm; exact absurd hm (by omega)
    | succ m ih =>
      intro a τ1 L1 σ1 hm ha hc1 ho hin
      have g' := g.off ho (by rw [TXO_mem]; omega) (by rw [TXO_mem]; omega)
      by_cases hlt : a < S.length
      · obtain ⟨q0, q1, q2, q3, q4⟩ := get_ok hS hlt
        refine go_iload_n dX0_startTexts_2 rfl ?_
        refine go_aload_n dX0_startTexts_3 rfl ?_
        refine go_cvP0 (M2 := mX1_size) dX0_startTexts_4 ml_X0_50 mv_X1_size hks1 rfl rfl (Nat.le_of_ble_eq_true rfl) (by decide) (ev_X1_size g') ?_
        rw [List.length_map]
        refine go_icmp_ge (tgt := 90) dX0_startTexts_7 (by decide) (by unfold inR; omega) (by unfold inR; omega) (fun b7 => ?_) (fun b7 => ?_)
        · skip
          exact absurd b7 (by omega)
        · skip
          refine go_aload_n dX0_startTexts_10 rfl ?_
          refine go_iload_n dX0_startTexts_11 rfl ?_
          refine go_cvP1 (M2 := mX1_at) dX0_startTexts_12 ml_X0_89 mv_X1_at hks1 rfl rfl (Nat.le_of_ble_eq_true rfl) (by decide) (ev_X1_at g' (by unfold inR; omega)) ?_
          rw [ln_at_map (by omega) (by omega), Int.toNat_natCast, q0]
          refine go_ist3 dX0_startTexts_15 (Nat.le_of_ble_eq_true rfl) rfl ?_
          refine go_iconst dX0_startTexts_16 ?_
          refine go_ist4 dX0_startTexts_17 (Nat.le_of_ble_eq_true rfl) rfl ?_
          refine inner a hlt (S.length + 1) 0 τ1 L1 σ1 _ (by omega) (by omega) hc1 ho (fun a' j z1 z2 z3 z4 z5 => hin a' j z1 z2 (by omega) z4 z5) (fun τ2 L2 σ2 v4 v5 a1 a2 a3 => ?_)
          refine go_inc2 dX0_startTexts_84 (Nat.le_of_ble_eq_true rfl) rfl ?_
          refine go_goto (tgt := 2) dX0_startTexts_87 (by decide) ?_
          rw [show (a : Int) + 1 = ((a + 1 : Nat) : Int) by omega]
          refine go_weak (lv' := [some (.ref 43), some (.ref ks), some (.int (iZ ((a + 1 : Nat) : Int))), none, none, none]) (fun i v hv => ?_) (ih (a + 1) τ2 L2 σ2 (by omega) (by omega) a1 a2 a3)
          rcases i with _ | _ | _ | _ | _ | _ | i <;> simp at hv ⊢ <;> exact hv
      · skip
        refine go_iload_n dX0_startTexts_2 rfl ?_
        refine go_aload_n dX0_startTexts_3 rfl ?_
        refine go_cvP0 (M2 := mX1_size) dX0_startTexts_4 ml_X0_50 mv_X1_size hks1 rfl rfl (Nat.le_of_ble_eq_true rfl) (by decide) (ev_X1_size g') ?_
        rw [List.length_map]
        refine go_icmp_ge (tgt := 90) dX0_startTexts_7 (by decide) (by unfold inR; omega) (by unfold inR; omega) (fun b7 => ?_) (fun b7 => ?_)
        · skip
          refine go_retV dX0_startTexts_90 rfl ?_
          refine ⟨τ1, L1, hc1, fun i j x y z1 z2 z3 z4 m2 z5 z6 => ?_, ho⟩
          obtain ⟨zi, ei⟩ := List.getElem?_eq_some_iff.mp z2
          obtain ⟨zj, ej⟩ := List.getElem?_eq_some_iff.mp z3
          have := hin i j zi zj (by omega) z1 (by rw [ei, ej]; exact z4) m2 z5 (by rw [ei, ej]; exact z6)
          rwa [ej] at this
        · skip
          exact absurd b7 (by omega)
  refine am_ev (by decide) [some (.ref 43), some (.ref ks), none, none, none, none] rfl (Nat.le_of_ble_eq_true rfl) ?_
  refine go_iconst dX0_startTexts_0 ?_
  refine go_ist2 dX0_startTexts_1 (Nat.le_of_ble_eq_true rfl) rfl ?_
  exact outer (S.length + 1) 0 τ L σ (by omega) (by omega) hc am_off.rf (fun a' j z1 z2 z3 => absurd z3 (by omega))
