/-! ===== Clashes: followText ===== -/
theorem am_or01 {a b : Int} (ha : a = 0 ∨ a = 1) (hb : b = 0 ∨ b = 1) : am_or a b = if a = 0 ∧ b = 0 then 0 else 1 := by
  rcases ha with rfl | rfl <;> rcases hb with rfl | rfl <;> rfl
/-- what the i-th remainder has offered, by the rules below r, is taken into account -/
def offd (S ws : List (List Int)) (t v : List Int) (τ' : Nat → List Int) (r : Nat) : Prop := ∀ r' (hr : r' < S.length), r' < r → ∀ m (hm : m < ws.length), (v <+: S[r'] → ws[m] = S[r'].drop v.length → τ' m ≠ [] ∧ encN (τ' m) ≤ encN (t ++ ws[m])) ∧ (S[r'] <+: v → ws[m] = v.drop S[r'].length → τ' m ≠ [] ∧ encN (τ' m) ≤ encN t)
theorem offd.mono {S ws : List (List Int)} {t v : List Int} {τ τ' : Nat → List Int} {r : Nat} (h : offd S ws t v τ r) (hl : tle τ τ') : offd S ws t v τ' r := fun r' hr h1 m hm => ⟨fun a b => by
    have x := (h r' hr h1 m hm).1 a b
    have y := hl m x.1
    exact ⟨y.1, by omega⟩, fun a b => by
    have x := (h r' hr h1 m hm).2 a b
    have y := hl m x.1
    exact ⟨y.1, by omega⟩⟩
theorem ev_X0_followText {σ : am_St} {ks n : Nat} {S ws : List (List Int)} {τ : Nat → List Int} {L : List Nat} {i : Nat} (hS : okS S) (hw : rmL S ws) (hwA : ∀ w, Rem S w → w ∈ ws) (g : hold σ ks n (S.map enc)) (hc : clI σ S ws τ L) (hks : ks + 1 < 40) (hi : i < ws.length) : am_Ev SH mX0_followText 2 [.ref 43, .ref ks, .int (iZ (i : Int))] σ (am_rI (fun x σ2 => ∃ τ' L', clI σ2 S ws τ' L' ∧ tle τ τ' ∧ (x = 1 ∨ (x = 0 ∧ τ' = τ)) ∧ (Lst S ws[i] (τ i) → ws[i] ≠ [] → offd S ws (τ i) ws[i] τ' S.length) ∧ am_off TXO σ σ2)) := by
  have hks1 := g.1
  have h8 := hS.2.2
  have h25 := Rem_len hS hw.1 hw.2
  have hvR := hw.2 _ (List.getElem_mem hi)
  have hvo := Rem_ok hS hvR
  have ev := enc_inR hvo.1 (by omega)
  have en := enc_nil_iff hvo.1
  have eg : ws.getD i [] = ws[i] := by rw [List.getD_eq_getElem?_getD, List.getElem?_eq_getElem hi]; rfl
  have hLne : Lst S ws[i] (τ i) → τ i ≠ [] := fun h z => by have := (h.1.ok hS).2; rw [z] at this; simp at this
  have loop : ∀ (m : Nat) (r : Nat) (ch : Int) (τ1 : Nat → List Int) (L1 : List Nat) (σ1 : am_St) (w6 w7 : Option Value), ws[i] ≠ [] → τ i ≠ [] → S.length - r < m → r ≤ S.length → clI σ1 S ws τ1 L1 → tle τ τ1 → (ch = 1 ∨ (ch = 0 ∧ τ1 = τ)) → (Lst S ws[i] (τ i) → offd S ws (τ i) ws[i] τ1 r) → am_off TXO σ σ1 → am_nl w6 = true → am_Go SH mX0_followText 2 (am_rI (fun x σ2 => ∃ τ' L', clI σ2 S ws τ' L' ∧ tle τ τ' ∧ (x = 1 ∨ (x = 0 ∧ τ' = τ)) ∧ (Lst S ws[i] (τ i) → ws[i] ≠ [] → offd S ws (τ i) ws[i] τ' S.length) ∧ am_off TXO σ σ2)) 47 [some (.ref 43), some (.ref ks), some (.int (iZ (i : Int))), some (.int (iZ (enc ws[i]))), some (.int (iZ ch)), some (.int (iZ r)), w6, w7] [] σ1 := by
    intro m
    induction m with
    | zero => intro r ch τ1 L1 σ1 w6 w7 _ _ hm; exact absurd hm (by omega)
    | succ m ih =>
      intro r ch τ1 L1 σ1 w6 w7 hne ht hm hr hc1 hl1 hch hof ho hw6
      have g' := g.off ho (by rw [TXO_mem]; omega) (by rw [TXO_mem]; omega)
      have hc1' := hc1
      obtain ⟨c1, c2, c3, ov, c4⟩ := hc1
      have hch01 : ch = 0 ∨ ch = 1 := by rcases hch with z | z; exact Or.inr z; exact Or.inl z.1
      by_cases hlt : r < S.length
      · obtain ⟨q0, q1, q2, q3, q4⟩ := get_ok hS hlt
        have ht1 := (hl1 i ht).1
        obtain ⟨i1, i2, i3⟩ := c3.2.2 i ht1
        rw [eg] at i2
        have hsum := sumL_le hS hw c3.1 (fun m hm => (c3.2.1 m hm).1)
        have hfin : Lst S ws[i] (τ i) → τ1 i = τ i := fun z => z.eq hS i2 (hl1 i ht).2
        have b1 := wd_be_enc q2 hvo.1 q3 (by omega)
        have b2 := wd_be_enc hvo.1 q2 (by omega) q3
        have step : ∀ (ch2 : Int) (τ2 : Nat → List Int) (L2 : List Nat) (σ2 : am_St) (w7 : Option Value), clI σ2 S ws τ2 L2 → tle τ1 τ2 → (ch2 = 1 ∨ (ch2 = 0 ∧ τ2 = τ)) → (Lst S ws[i] (τ i) → ∀ m2 (hm2 : m2 < ws.length), (ws[i] <+: S[r] → ws[m2] = S[r].drop ws[i].length → τ2 m2 ≠ [] ∧ encN (τ2 m2) ≤ encN (τ i ++ ws[m2])) ∧ (S[r] <+: ws[i] → ws[m2] = ws[i].drop S[r].length → τ2 m2 ≠ [] ∧ encN (τ2 m2) ≤ encN (τ i))) → am_off TXO σ1 σ2 → am_Go SH mX0_followText 2 (am_rI (fun x σ2 => ∃ τ' L', clI σ2 S ws τ' L' ∧ tle τ τ' ∧ (x = 1 ∨ (x = 0 ∧ τ' = τ)) ∧ (Lst S ws[i] (τ i) → ws[i] ≠ [] → offd S ws (τ i) ws[i] τ' S.length) ∧ am_off TXO σ σ2)) 141 [some (.ref 43), some (.ref ks), some (.int (iZ (i : Int))), some (.int (iZ (enc ws[i]))), some (.int (iZ ch2)), some (.int (iZ r)), some (.int (iZ (enc S[r]))), w7] [] σ2 := by
          intro ch2 τ2 L2 σ2 w7 a1 a2 a3 a4 a5
          refine go_inc5 dX0_followText_141 (Nat.le_of_ble_eq_true rfl) rfl ?_
          refine go_goto (tgt := 47) dX0_followText_144 (by decide) ?_
          rw [show (r : Int) + 1 = ((r + 1 : Nat) : Int) by omega]
          refine ih (r + 1) ch2 τ2 L2 σ2 _ _ hne ht (by omega) (by omega) a1 (hl1.tr a2) a3 (fun hL r' hr' h1 m2 hm2 => ?_) (ho.tr a5) rfl
          by_cases hje : r' = r
          · subst hje; exact a4 hL m2 hm2
          · exact ((hof hL).mono a2) r' hr' (by omega) m2 hm2
        refine go_iload dX0_followText_47 rfl ?_
        refine go_aload_n dX0_followText_49 rfl ?_
        refine go_cvP0 (M2 := mX1_size) dX0_followText_50 ml_X0_50 mv_X1_size hks1 rfl rfl (Nat.le_of_ble_eq_true rfl) (by decide) (ev_X1_size g') ?_
        rw [List.length_map]
        refine go_icmp_ge (tgt := 147) dX0_followText_53 (by decide) (by unfold inR; omega) (by unfold inR; omega) (fun b53 => ?_) (fun b53 => ?_)
        · skip
          exact absurd b53 (by omega)
        · skip
          refine go_aload_n dX0_followText_56 rfl ?_
          refine go_iload dX0_followText_57 rfl ?_
          refine go_cvP1 (M2 := mX1_at) dX0_followText_59 ml_X0_89 mv_X1_at hks1 rfl rfl (Nat.le_of_ble_eq_true rfl) (by decide) (ev_X1_at g' (by unfold inR; omega)) ?_
          rw [ln_at_map (by omega) (by omega), Int.toNat_natCast, q0]
          refine go_ist6 dX0_followText_62 (Nat.le_of_ble_eq_true rfl) rfl ?_
          refine go_aload_n dX0_followText_64 rfl ?_
          refine go_getr fl_X0_37 dX0_followText_65 sh_43 rfl ?_
          refine go_aload_n dX0_followText_68 rfl ?_
          refine go_getr fl_X0_33 dX0_followText_69 sh_43 rfl ?_
          refine go_iload_n dX0_followText_72 rfl ?_
          refine go_aaload dX0_followText_73 sh_53 (by first | assumption | exact Nat.le_of_ble_eq_true rfl) (by omega) (by omega) (tx_g (show i < 25 by omega)) ?_
          refine go_cvV1 (M2 := mX1_copy) dX0_followText_74 ml_X0_71 mv_X1_copy c4.1 rfl rfl (Nat.le_of_ble_eq_true rfl) (by decide) (ev_X1_copy c4 (c2 i (by omega)) (by omega) (by omega) (by omega) (by omega)) (fun σ2 hq2 => ?_)
          have c1' := c1.off hq2.2 (by decide) (by decide)
          have c2' := txs_o c2 hq2.2
          refine go_iload dX0_followText_77 rfl ?_
          refine go_iload_n dX0_followText_79 rfl ?_
          refine go_csP2 (M2 := mX9_begins) dX0_followText_80 ml_X0_93 ms_X9_begins (Nat.le_of_ble_eq_true rfl) (by decide) (ev_X9_begins (enc_inR q2 q3) ev) ?_
          rw [b1]
          refine go_if_eq (tgt := 117) dX0_followText_83 (by decide) (by unfold inR; split <;> omega) (fun b83 => ?_) (fun b83 => ?_)
          · skip
            have np : ¬ ws[i] <+: S[r] := fun z => by rw [if_pos z] at b83; omega
            refine go_iload_n dX0_followText_117 rfl ?_
            refine go_iload dX0_followText_118 rfl ?_
            refine go_csP2 (M2 := mX9_begins) dX0_followText_120 ml_X0_93 ms_X9_begins (Nat.le_of_ble_eq_true rfl) (by decide) (ev_X9_begins ev (enc_inR q2 q3)) ?_
            rw [b2]
            refine go_if_eq (tgt := 141) dX0_followText_123 (by decide) (by unfold inR; split <;> omega) (fun b123 => ?_) (fun b123 => ?_)
            · skip
              have np2 : ¬ S[r] <+: ws[i] := fun z => by rw [if_pos z] at b123; omega
              first
                | exact step _ τ2 L2 _ _ ⟨(c1.off o3 (by decide) (by decide)).off d6 (by rw [TXL_mem]; omega) (by rw [TXL_mem]; omega), d1, d2, _, hq3.1.off d6 (by rw [TXL_mem]; omega) (by rw [TXL_mem]; omega)⟩ d3 (by
                    by_cases hcc : ch = 0 ∧ x = 0
                    · rw [if_pos hcc]; refine Or.inr ⟨rfl, ?_⟩; rcases d5 with z | z; omega; rcases hch with y | y; omega; rw [z.2, y.2]
                    · rw [if_neg hcc]; exact Or.inl rfl) (fun hL m2 hm2 => ⟨fun _ z => by rw [← hfin hL, z]; exact d4 m2 (by rw [← z]; exact List.getElem?_eq_getElem hm2), fun y z => by
                      have e1 : ws[i] = S[r] := hp.eq_of_length (Nat.le_antisymm hp.length_le y.length_le)
                      have e2 : ws[m2] = S[r].drop ws[i].length := by rw [z, ← e1]
                      have e3 : ws[m2] = [] := by rw [z, ← e1, List.drop_length]
                      have := d4 m2 (by rw [← e2]; exact List.getElem?_eq_getElem hm2)
                      rw [← e2, e3, List.append_nil] at this
                      rw [← hfin hL]
                      exact this⟩) ((TXO_o o3).tr (TXO_of d6))
                | exact step _ τ2 L2 _ _ ⟨c1'.off d6 (by rw [TXL_mem]; omega) (by rw [TXL_mem]; omega), d1, d2, _, hq2.1.off d6 (by rw [TXL_mem]; omega) (by rw [TXL_mem]; omega)⟩ d3 (by
                    by_cases hcc : ch = 0 ∧ x = 0
                    · rw [if_pos hcc]; refine Or.inr ⟨rfl, ?_⟩; rcases d5 with z | z; omega; rcases hch with y | y; omega; rw [z.2, y.2]
                    · rw [if_neg hcc]; exact Or.inl rfl) (fun hL m2 hm2 => ⟨fun y => absurd y np, fun _ z => by rw [← hfin hL]; exact d4 m2 (by rw [← z]; exact List.getElem?_eq_getElem hm2)⟩) ((TXO_o hq2.2).tr (TXO_of d6))
                | exact step _ τ1 L1 _ _ ⟨c1', c2', c3, _, hq2.1⟩ tle.rf hch (fun hL m2 hm2 => ⟨fun y => absurd y np, fun y => absurd y np2⟩) (TXO_o hq2.2)
            · skip
              have hp2 : S[r] <+: ws[i] := by
                apply Classical.byContradiction
                intro z
                rw [if_neg z] at b123
                omega
              have hP := i2.s3 hne q1 hp2
              refine go_iload dX0_followText_126 rfl ?_
              refine go_aload_n dX0_followText_128 rfl ?_
              refine go_iload_n dX0_followText_129 rfl ?_
              refine go_iload dX0_followText_130 rfl ?_
              refine go_csP2 (M2 := mX9_behind) dX0_followText_132 ml_X0_102 ms_X9_behind (Nat.le_of_ble_eq_true rfl) (by decide) (ev_X9_behind ev (enc_inR q2 q3)) ?_
              rw [wd_hi_enc hvo.1 q2 (by omega) q3 hp2]
              refine go_cvI1 (M2 := mX0_take) dX0_followText_135 ml_X0_106 mv_X0_take sh_43 rfl rfl (Nat.le_of_ble_eq_true rfl) (by decide) (ev_X0_offer hS hw c1' c2' c3 hq2.1 hP (hwA _ hP.rem) (Or.inl (by omega))) (fun x σ4 hq4 => ?_)
              obtain ⟨τ2, L2, d1, d2, d3, d4, d5, d6⟩ := hq4
              have hx01 : x = 0 ∨ x = 1 := by rcases d5 with z | z; exact Or.inr z; exact Or.inl z.1
              refine go_ior dX0_followText_138 ?_
              rw [am_or01 hch01 hx01]
              refine go_ist4 dX0_followText_139 (Nat.le_of_ble_eq_true rfl) rfl ?_
              first
                | exact step _ τ2 L2 _ _ ⟨(c1.off o3 (by decide) (by decide)).off d6 (by rw [TXL_mem]; omega) (by rw [TXL_mem]; omega), d1, d2, _, hq3.1.off d6 (by rw [TXL_mem]; omega) (by rw [TXL_mem]; omega)⟩ d3 (by
                    by_cases hcc : ch = 0 ∧ x = 0
                    · rw [if_pos hcc]; refine Or.inr ⟨rfl, ?_⟩; rcases d5 with z | z; omega; rcases hch with y | y; omega; rw [z.2, y.2]
                    · rw [if_neg hcc]; exact Or.inl rfl) (fun hL m2 hm2 => ⟨fun _ z => by rw [← hfin hL, z]; exact d4 m2 (by rw [← z]; exact List.getElem?_eq_getElem hm2), fun y z => by
                      have e1 : ws[i] = S[r] := hp.eq_of_length (Nat.le_antisymm hp.length_le y.length_le)
                      have e2 : ws[m2] = S[r].drop ws[i].length := by rw [z, ← e1]
                      have e3 : ws[m2] = [] := by rw [z, ← e1, List.drop_length]
                      have := d4 m2 (by rw [← e2]; exact List.getElem?_eq_getElem hm2)
                      rw [← e2, e3, List.append_nil] at this
                      rw [← hfin hL]
                      exact this⟩) ((TXO_o o3).tr (TXO_of d6))
                | exact step _ τ2 L2 _ _ ⟨c1'.off d6 (by rw [TXL_mem]; omega) (by rw [TXL_mem]; omega), d1, d2, _, hq2.1.off d6 (by rw [TXL_mem]; omega) (by rw [TXL_mem]; omega)⟩ d3 (by
                    by_cases hcc : ch = 0 ∧ x = 0
                    · rw [if_pos hcc]; refine Or.inr ⟨rfl, ?_⟩; rcases d5 with z | z; omega; rcases hch with y | y; omega; rw [z.2, y.2]
                    · rw [if_neg hcc]; exact Or.inl rfl) (fun hL m2 hm2 => ⟨fun y => absurd y np, fun _ z => by rw [← hfin hL]; exact d4 m2 (by rw [← z]; exact List.getElem?_eq_getElem hm2)⟩) ((TXO_o hq2.2).tr (TXO_of d6))
                | exact step _ τ1 L1 _ _ ⟨c1', c2', c3, _, hq2.1⟩ tle.rf hch (fun hL m2 hm2 => ⟨fun y => absurd y np, fun y => absurd y np2⟩) (TXO_o hq2.2)
          · skip
            have hp : ws[i] <+: S[r] := by
              apply Classical.byContradiction
              intro z
              rw [if_neg z] at b83
              omega
            have hP := i2.s2 hne q1 hp
            have okd : okl (S[r].drop ws[i].length) := q2.drop _
            have ld : (S[r].drop ws[i].length).length ≤ 3 := (Rem_ok hS hP.rem).2
            refine go_iload dX0_followText_86 rfl ?_
            refine go_iload_n dX0_followText_88 rfl ?_
            refine go_csP2 (M2 := mX9_behind) dX0_followText_89 ml_X0_102 ms_X9_behind (Nat.le_of_ble_eq_true rfl) (by decide) (ev_X9_behind (enc_inR q2 q3) ev) ?_
            rw [wd_hi_enc q2 hvo.1 q3 (by omega) hp]
            refine go_ist7 dX0_followText_92 (Nat.le_of_ble_eq_true rfl) rfl ?_
            refine go_aload_n dX0_followText_94 rfl ?_
            refine go_getr fl_X0_37 dX0_followText_95 sh_43 rfl ?_
            refine go_iload dX0_followText_98 rfl ?_
            refine go_cvV1 (M2 := mX1_addWord) dX0_followText_100 ml_X0_99 mv_X1_addWord c4.1 rfl rfl (Nat.le_of_ble_eq_true rfl) (by decide) (ev_X1_addWord hq2.1 (enc_inR okd (by omega)) (by rw [wd_sz_enc okd (by omega)]; omega)) (fun σ3 hq3 => ?_)
            rw [wd_sz_enc okd (by omega), Int.toNat_natCast, wd_cs_enc okd (by omega)] at hq3
            have o3 : am_off [104, 104 + 1] σ1 σ3 := hq2.2.tr hq3.2
            refine go_iload dX0_followText_103 rfl ?_
            refine go_aload_n dX0_followText_105 rfl ?_
            refine go_iload dX0_followText_106 rfl ?_
            refine go_cvI1 (M2 := mX0_take) dX0_followText_108 ml_X0_106 mv_X0_take sh_43 rfl rfl (Nat.le_of_ble_eq_true rfl) (by decide) (ev_X0_offer hS hw (c1.off o3 (by decide) (by decide)) (txs_o c2 o3) c3 hq3.1 hP (hwA _ hP.rem) (Or.inl (by rw [List.length_append]; omega))) (fun x σ4 hq4 => ?_)
            obtain ⟨τ2, L2, d1, d2, d3, d4, d5, d6⟩ := hq4
            have hx01 : x = 0 ∨ x = 1 := by rcases d5 with z | z; exact Or.inr z; exact Or.inl z.1
            refine go_ior dX0_followText_111 ?_
            rw [am_or01 hch01 hx01]
            refine go_ist4 dX0_followText_112 (Nat.le_of_ble_eq_true rfl) rfl ?_
            skip
            refine go_goto (tgt := 141) dX0_followText_114 (by decide) ?_
            first
              | exact step _ τ2 L2 _ _ ⟨(c1.off o3 (by decide) (by decide)).off d6 (by rw [TXL_mem]; omega) (by rw [TXL_mem]; omega), d1, d2, _, hq3.1.off d6 (by rw [TXL_mem]; omega) (by rw [TXL_mem]; omega)⟩ d3 (by
                  by_cases hcc : ch = 0 ∧ x = 0
                  · rw [if_pos hcc]; refine Or.inr ⟨rfl, ?_⟩; rcases d5 with z | z; omega; rcases hch with y | y; omega; rw [z.2, y.2]
                  · rw [if_neg hcc]; exact Or.inl rfl) (fun hL m2 hm2 => ⟨fun _ z => by rw [← hfin hL, z]; exact d4 m2 (by rw [← z]; exact List.getElem?_eq_getElem hm2), fun y z => by
                    have e1 : ws[i] = S[r] := hp.eq_of_length (Nat.le_antisymm hp.length_le y.length_le)
                    have e2 : ws[m2] = S[r].drop ws[i].length := by rw [z, ← e1]
                    have e3 : ws[m2] = [] := by rw [z, ← e1, List.drop_length]
                    have := d4 m2 (by rw [← e2]; exact List.getElem?_eq_getElem hm2)
                    rw [← e2, e3, List.append_nil] at this
                    rw [← hfin hL]
                    exact this⟩) ((TXO_o o3).tr (TXO_of d6))
              | exact step _ τ2 L2 _ _ ⟨c1'.off d6 (by rw [TXL_mem]; omega) (by rw [TXL_mem]; omega), d1, d2, _, hq2.1.off d6 (by rw [TXL_mem]; omega) (by rw [TXL_mem]; omega)⟩ d3 (by
                  by_cases hcc : ch = 0 ∧ x = 0
                  · rw [if_pos hcc]; refine Or.inr ⟨rfl, ?_⟩; rcases d5 with z | z; omega; rcases hch with y | y; omega; rw [z.2, y.2]
                  · rw [if_neg hcc]; exact Or.inl rfl) (fun hL m2 hm2 => ⟨fun y => absurd y np, fun _ z => by rw [← hfin hL]; exact d4 m2 (by rw [← z]; exact List.getElem?_eq_getElem hm2)⟩) ((TXO_o hq2.2).tr (TXO_of d6))
              | exact step _ τ1 L1 _ _ ⟨c1', c2', c3, _, hq2.1⟩ tle.rf hch (fun hL m2 hm2 => ⟨fun y => absurd y np, fun y => absurd y np2⟩) (TXO_o hq2.2)
      · skip
        refine go_iload dX0_followText_47 rfl ?_
        refine go_aload_n dX0_followText_49 rfl ?_
        refine go_cvP0 (M2 := mX1_size) dX0_followText_50 ml_X0_50 mv_X1_size hks1 rfl rfl (Nat.le_of_ble_eq_true rfl) (by decide) (ev_X1_size g') ?_
        rw [List.length_map]
        refine go_icmp_ge (tgt := 147) dX0_followText_53 (by decide) (by unfold inR; omega) (by unfold inR; omega) (fun b53 => ?_) (fun b53 => ?_)
        · skip
          refine go_iload dX0_followText_147 rfl ?_
          refine go_retZ dX0_followText_149 rfl hch01 ?_
          exact ⟨τ1, L1, hc1', hl1, hch, fun hL _ r' hr' h1 m2 hm2 => hof hL r' hr' (by omega) m2 hm2, ho⟩
        · skip
          exact absurd b53 (by omega)
  have hc' := hc
  obtain ⟨c1, c2, c3, ov, c4⟩ := hc
  refine am_ev (by decide) [some (.ref 43), some (.ref ks), some (.int (iZ ((i : Int)))), none, none, none, none, none] rfl (Nat.le_of_ble_eq_true rfl) ?_
  refine go_aload_n dX0_followText_0 rfl ?_
  refine go_getr fl_X0_12 dX0_followText_1 sh_43 rfl ?_
  refine go_getr fl_X0_47 dX0_followText_4 sh_44 rfl ?_
  refine go_iload_n dX0_followText_7 rfl ?_
  refine go_cvP1 (M2 := mX1_at) dX0_followText_8 ml_X0_89 mv_X1_at c1.1 rfl rfl (Nat.le_of_ble_eq_true rfl) (by decide) (ev_X1_at c1 (by unfold inR; omega)) ?_
  rw [ln_at_map (by omega) (by omega), Int.toNat_natCast, eg]
  refine go_ist3 dX0_followText_11 (Nat.le_of_ble_eq_true rfl) rfl ?_
  refine go_iload_n dX0_followText_12 rfl ?_
  refine go_if_lt (tgt := 39) dX0_followText_13 (by decide) (by unfold inR; omega) (fun b13 => ?_) (fun b13 => ?_)
  · skip
    exact absurd b13 (by omega)
  · skip
    refine go_iload_n dX0_followText_16 rfl ?_
    refine go_bipush dX0_followText_17 rfl ?_
    refine go_icmp_ge (tgt := 39) dX0_followText_19 (by decide) (by unfold inR; omega) (by unfold inR; omega) (fun b19 => ?_) (fun b19 => ?_)
    · skip
      exact absurd b19 (by omega)
    · skip
      refine go_iload_n dX0_followText_22 rfl ?_
      refine go_iconst dX0_followText_23 ?_
      refine go_icmp_eq (tgt := 39) dX0_followText_24 (by decide) ev (by unfold inR; omega) (fun b24 => ?_) (fun b24 => ?_)
      · skip
        refine go_iconst dX0_followText_39 ?_
        refine go_retZ dX0_followText_40 rfl (by omega) ?_
        first
          | exact ⟨τ, L, hc', tle.rf, Or.inr ⟨rfl, rfl⟩, fun _ z => absurd (en.mp b24) z, am_off.rf⟩
          | exact ⟨τ, L, hc', tle.rf, Or.inr ⟨rfl, rfl⟩, fun z _ => absurd (List.length_eq_zero_iff.mp (by omega)) (hLne z), am_off.rf⟩
      · skip
        refine go_aload_n dX0_followText_27 rfl ?_
        refine go_getr fl_X0_33 dX0_followText_28 sh_43 rfl ?_
        refine go_iload_n dX0_followText_31 rfl ?_
        refine go_aaload dX0_followText_32 sh_53 (by first | assumption | exact Nat.le_of_ble_eq_true rfl) (by omega) (by omega) (tx_g (show i < 25 by omega)) ?_
        refine go_cvP0 (M2 := mX1_size) dX0_followText_33 ml_X0_50 mv_X1_size (c2 i (by omega)).1 rfl rfl (Nat.le_of_ble_eq_true rfl) (by decide) (ev_X1_size (c2 i (by omega))) ?_
        refine go_if_ne (tgt := 41) dX0_followText_36 (by decide) (by have := (c2 i (by omega)).2.2.2.2.1; unfold inR; omega) (fun b36 => ?_) (fun b36 => ?_)
        · skip
          refine go_iconst dX0_followText_41 ?_
          refine go_ist4 dX0_followText_42 (Nat.le_of_ble_eq_true rfl) rfl ?_
          refine go_iconst dX0_followText_44 ?_
          refine go_ist5 dX0_followText_45 (Nat.le_of_ble_eq_true rfl) rfl ?_
          exact loop (S.length + 1) 0 0 τ L σ none none (fun z => b24 (en.mpr z)) (fun z => b36 (by rw [z]; rfl)) (by omega) (by omega) hc' tle.rf (Or.inr ⟨rfl, rfl⟩) (fun _ r' hr' h1 => absurd h1 (by omega)) am_off.rf rfl
        · skip
          refine go_iconst dX0_followText_39 ?_
          refine go_retZ dX0_followText_40 rfl (by omega) ?_
          first
            | exact ⟨τ, L, hc', tle.rf, Or.inr ⟨rfl, rfl⟩, fun _ z => absurd (en.mp b24) z, am_off.rf⟩
            | exact ⟨τ, L, hc', tle.rf, Or.inr ⟨rfl, rfl⟩, fun z _ => absurd (List.length_eq_zero_iff.mp (by omega)) (hLne z), am_off.rf⟩
