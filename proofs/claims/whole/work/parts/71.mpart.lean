/-! ===== the reference: partingSet, parting ===== -/
/-- the best set among those below n -/
def bestM (R : List (List Int)) (n : Nat) (x : Int) : Prop := (x = -1 ∧ ∀ m, m < n → ¬ clean R m) ∨ ∃ b : Nat, b < n ∧ x = (b : Int) ∧ clean R b ∧ ∀ m', m' < n → clean R m' → mt_bc b < mt_bc m' ∨ (mt_bc b = mt_bc m' ∧ b ≤ m')
theorem bestM_keep {R : List (List Int)} {n : Nat} {x : Int} (h : bestM R n x) (hk : clean R n → ∃ b : Nat, x = (b : Int) ∧ mt_bc b ≤ mt_bc n) : bestM R (n + 1) x := by
  rcases h with ⟨h1, h2⟩ | ⟨b, h1, h2, h3, h4⟩
  · refine Or.inl ⟨h1, fun m hm hc => ?_⟩
    by_cases e : m = n
    · subst e
      obtain ⟨b, hb, _⟩ := hk hc
      omega
    · exact h2 m (by omega) hc
  · refine Or.inr ⟨b, by omega, h2, h3, fun m' hm' hc => ?_⟩
    by_cases e : m' = n
    · subst e
      obtain ⟨b', hb', hle⟩ := hk hc
      have : b' = b := by omega
      subst this
      rcases Int.lt_or_eq_of_le hle with z | z
      · exact Or.inl z
      · exact Or.inr ⟨z, by omega⟩
    · exact h4 m' (by omega) hc
theorem bestM_new {R : List (List Int)} {n : Nat} {x : Int} (h : bestM R n x) (hc : clean R n) (hx : x = -1 ∨ ∃ b : Nat, x = (b : Int) ∧ mt_bc n < mt_bc b) : bestM R (n + 1) (n : Int) := by
  refine Or.inr ⟨n, by omega, rfl, hc, fun m' hm' hc' => ?_⟩
  by_cases e : m' = n
  · subst e; exact Or.inr ⟨rfl, Nat.le_refl _⟩
  · rcases h with ⟨h1, h2⟩ | ⟨b, h1, h2, h3, h4⟩
    · exact absurd hc' (h2 m' (by omega))
    · rcases hx with z | ⟨b', z, hlt⟩
      · omega
      · have : b' = b := by omega
        subst this
        rcases h4 m' (by omega) hc' with q | q
        · exact Or.inl (by omega)
        · exact Or.inl (by omega)
theorem ev_X11_partingSet {σ : am_St} {s : mS} (h : RepM σ s) : am_Ev SH mX11_partingSet 8 [.ref 0] σ (am_rI (fun x σ2 => x = mt_part s.2.1 ∧ RepM σ2 s ∧ fr [6, 29] [16] σ σ2)) := by
  have ht := h.1.2.2.2.2
  have h8 := ht.2.1
  have hp8 : 2 ^ s.2.1.length ≤ 2 ^ 8 := Nat.pow_le_pow_right (by decide) h8
  have hsh : am_shl 1 (s.2.1.length : Int) = ((2 ^ s.2.1.length : Nat) : Int) := by
    rw [show (1 : Int) = ((1 : Nat) : Int) from rfl, am_shlN (by omega) (by omega), Nat.one_mul]
  generalize hQ : (am_rI (fun x σ2 => x = mt_part s.2.1 ∧ RepM σ2 s ∧ fr [6, 29] [16] σ σ2)) = Q
  have loop : ∀ (m2 : Nat) (n : Nat) (x : Int) (o3 : Option Value) (σ1 : am_St), 2 ^ s.2.1.length - n < m2 → n ≤ 2 ^ s.2.1.length → bestM s.2.1 n x → fr [6, 29] [16] σ σ1 → (σ1.1 0 29 = 0 ∨ σ1.1 0 29 = 1) → am_Go SH mX11_partingSet 8 Q 4 [some (.ref 0), some (.int (iZ x)), some (.int (iZ (n : Int))), o3] [] σ1 := by
    intro m2
    induction m2 with
    | zero => intro n x o3 σ1 hm; exact absurd hm (by omega)
    | succ m2 ih =>
      intro n x o3 σ1 hm hn hx ho hf1
      have e0 : σ1.1 0 0 = (s.2.1.length : Int) := by rw [ho.f 0 (by decide)]; exact h.1.1
      by_cases hlt : n < 2 ^ s.2.1.length
      · have o6 : fr [6] [] σ1 (am_si σ1 0 6 (n : Int)) := fr_si (by decide)
        have oo : fr [6, 29] [16] σ (am_si σ1 0 6 (n : Int)) := ho.tr (o6.wk (by decide) (by decide))
        have tn : tbM (am_si σ1 0 6 (n : Int)) s.1 s.2.1 n := ⟨by rw [oo.f 0 (by decide)]; exact h.1.1, by simp [am_si], h.1.2.2.1.fr oo (by decide) (by decide), h.1.2.2.2.1.fr oo (by decide) (by decide), ht.1, ht.2.1, hlt, ht.2.2.2⟩
        have hf2 : (am_si σ1 0 6 (n : Int)).1 0 29 = 0 ∨ (am_si σ1 0 6 (n : Int)).1 0 29 = 1 := by rw [o6.f 29 (by decide)]; exact hf1
        have bcn : 0 ≤ mt_bc n ∧ mt_bc n ≤ 8 := mt_bc_0 ⟨n, by omega⟩
        have hm1 : 2 ^ s.2.1.length - (n + 1) < m2 := by omega
        have hn1 : n + 1 ≤ 2 ^ s.2.1.length := by omega
        have tail1 : (x = -1 ∨ ∃ b : Nat, x = (b : Int) ∧ mt_bc n < mt_bc b) → ∀ (y : Int) (σ2 : am_St), (((y = 1 ∧ ¬ Rem (mt_sg s.2.1 n) []) ∨ (y = 0 ∧ Rem (mt_sg s.2.1 n) [])) ∧ (σ2.1 0 29 = 0 ∨ σ2.1 0 29 = 1) ∧ fr [29] [16] (am_si σ1 0 6 (n : Int)) σ2) → am_Go SH mX11_partingSet 8 Q 49 [some (.ref 0), some (.int (iZ x)), some (.int (iZ (n : Int))), some (.int (iZ 1))] [.int (iZ y)] σ2 := by
          rintro hb y σ2 ⟨⟨rfl, hr⟩ | ⟨rfl, hr⟩, hf3, ho3⟩
          · skip
            refine go_if_eq (tgt := 56) dX11_partingSet_49 (by decide) (by unfold inR; omega) (fun b49 => ?_) (fun b49 => ?_)
            · skip
              exact absurd b49 (by decide)
            · skip
              refine go_iload_n dX11_partingSet_52 rfl ?_
              refine go_goto (tgt := 57) dX11_partingSet_53 (by decide) ?_
              refine go_ist1 dX11_partingSet_57 (Nat.le_of_ble_eq_true rfl) rfl ?_
              refine go_inc2 dX11_partingSet_58 (Nat.le_of_ble_eq_true rfl) rfl ?_
              refine go_goto (tgt := 4) dX11_partingSet_61 (by decide) ?_
              exact ih (n + 1) _ _ _ hm1 hn1 (bestM_new hx hr hb) (oo.tr (ho3.wk (by decide) (by decide))) hf3
          · skip
            refine go_if_eq (tgt := 56) dX11_partingSet_49 (by decide) (by unfold inR; omega) (fun b49 => ?_) (fun b49 => ?_)
            · skip
              refine go_iload_n dX11_partingSet_56 rfl ?_
              refine go_ist1 dX11_partingSet_57 (Nat.le_of_ble_eq_true rfl) rfl ?_
              refine go_inc2 dX11_partingSet_58 (Nat.le_of_ble_eq_true rfl) rfl ?_
              refine go_goto (tgt := 4) dX11_partingSet_61 (by decide) ?_
              exact ih (n + 1) _ _ _ hm1 hn1 (bestM_keep hx (fun z => absurd hr z)) (oo.tr (ho3.wk (by decide) (by decide))) hf3
            · skip
              exact absurd rfl b49
        by_cases hx1 : x = -1
        · subst hx1
          refine go_iload_n dX11_partingSet_4 rfl ?_
          refine go_iconst dX11_partingSet_5 ?_
          refine go_aload_n dX11_partingSet_6 rfl ?_
          refine go_geti fl_X11_109 dX11_partingSet_7 sh_0 rfl ?_
          first | (rw [e0]) | skip
          refine go_ishl dX11_partingSet_10 ?_
          rw [hsh]
          refine go_icmp_ge (tgt := 64) dX11_partingSet_11 (by decide) (by unfold inR; omega) (by unfold inR; omega) (fun b11 => ?_) (fun b11 => ?_)
          · skip
            omega
          · skip
            refine go_aload_n dX11_partingSet_14 rfl ?_
            refine go_iload_n dX11_partingSet_15 rfl ?_
            refine go_puti fl_X11_115 dX11_partingSet_16 sh_0 rfl am_fit_int ?_
            refine go_iload_n dX11_partingSet_19 rfl ?_
            refine go_iconst dX11_partingSet_20 ?_
            refine go_icmp_eq (tgt := 35) dX11_partingSet_21 (by decide) (by unfold inR; omega) (by unfold inR; omega) (fun b21 => ?_) (fun b21 => ?_)
            · skip
              refine go_iconst dX11_partingSet_35 ?_
              refine go_goto (tgt := 40) dX11_partingSet_36 (by decide) ?_
              refine go_ist3 dX11_partingSet_40 (Nat.le_of_ble_eq_true rfl) rfl ?_
              refine go_iload_n dX11_partingSet_41 rfl ?_
              refine go_if_eq (tgt := 56) dX11_partingSet_42 (by decide) (by unfold inR; omega) (fun b42 => ?_) (fun b42 => ?_)
              · skip
                exact absurd b42 (by decide)
              · skip
                refine go_aload_n dX11_partingSet_45 rfl ?_
                refine go_cvI0 (M2 := mX11_isClean) dX11_partingSet_46 ml_X11_288 mv_X11_isClean sh_0 rfl rfl (Nat.le_of_ble_eq_true rfl) (by decide) (ev_X11_isClean tn hf2) (fun y σ2 hq => ?_)
                exact tail1 (Or.inl rfl) y σ2 hq
            · skip
              exact absurd rfl b21
        · obtain ⟨b, hbn, rfl, hbc, hbm⟩ := hx.resolve_left (fun z => hx1 z.1)
          have bcb : 0 ≤ mt_bc b ∧ mt_bc b ≤ 8 := mt_bc_0 ⟨b, by omega⟩
          by_cases hlt2 : mt_bc n < mt_bc b
          · skip
            refine go_iload_n dX11_partingSet_4 rfl ?_
            refine go_iconst dX11_partingSet_5 ?_
            refine go_aload_n dX11_partingSet_6 rfl ?_
            refine go_geti fl_X11_109 dX11_partingSet_7 sh_0 rfl ?_
            first | (rw [e0]) | skip
            refine go_ishl dX11_partingSet_10 ?_
            rw [hsh]
            refine go_icmp_ge (tgt := 64) dX11_partingSet_11 (by decide) (by unfold inR; omega) (by unfold inR; omega) (fun b11 => ?_) (fun b11 => ?_)
            · skip
              omega
            · skip
              refine go_aload_n dX11_partingSet_14 rfl ?_
              refine go_iload_n dX11_partingSet_15 rfl ?_
              refine go_puti fl_X11_115 dX11_partingSet_16 sh_0 rfl am_fit_int ?_
              refine go_iload_n dX11_partingSet_19 rfl ?_
              refine go_iconst dX11_partingSet_20 ?_
              refine go_icmp_eq (tgt := 35) dX11_partingSet_21 (by decide) (by unfold inR; omega) (by unfold inR; omega) (fun b21 => ?_) (fun b21 => ?_)
              · skip
                omega
              · skip
                refine go_iload_n dX11_partingSet_24 rfl ?_
                refine go_csP1 (M2 := mX11_bits) dX11_partingSet_25 ml_X11_303 ms_X11_bits (Nat.le_of_ble_eq_true rfl) (by decide) (ev_X11_bits (by omega)) ?_
                refine go_iload_n dX11_partingSet_28 rfl ?_
                refine go_csP1 (M2 := mX11_bits) dX11_partingSet_29 ml_X11_303 ms_X11_bits (Nat.le_of_ble_eq_true rfl) (by decide) (ev_X11_bits (by omega)) ?_
                refine go_icmp_ge (tgt := 39) dX11_partingSet_32 (by decide) (by unfold inR; omega) (by unfold inR; omega) (fun b32 => ?_) (fun b32 => ?_)
                · skip
                  omega
                · skip
                  refine go_iconst dX11_partingSet_35 ?_
                  refine go_goto (tgt := 40) dX11_partingSet_36 (by decide) ?_
                  refine go_ist3 dX11_partingSet_40 (Nat.le_of_ble_eq_true rfl) rfl ?_
                  refine go_iload_n dX11_partingSet_41 rfl ?_
                  refine go_if_eq (tgt := 56) dX11_partingSet_42 (by decide) (by unfold inR; omega) (fun b42 => ?_) (fun b42 => ?_)
                  · skip
                    exact absurd b42 (by decide)
                  · skip
                    refine go_aload_n dX11_partingSet_45 rfl ?_
                    refine go_cvI0 (M2 := mX11_isClean) dX11_partingSet_46 ml_X11_288 mv_X11_isClean sh_0 rfl rfl (Nat.le_of_ble_eq_true rfl) (by decide) (ev_X11_isClean tn hf2) (fun y σ2 hq => ?_)
                    exact tail1 (Or.inr ⟨b, rfl, hlt2⟩) y σ2 hq
          · skip
            refine go_iload_n dX11_partingSet_4 rfl ?_
            refine go_iconst dX11_partingSet_5 ?_
            refine go_aload_n dX11_partingSet_6 rfl ?_
            refine go_geti fl_X11_109 dX11_partingSet_7 sh_0 rfl ?_
            first | (rw [e0]) | skip
            refine go_ishl dX11_partingSet_10 ?_
            rw [hsh]
            refine go_icmp_ge (tgt := 64) dX11_partingSet_11 (by decide) (by unfold inR; omega) (by unfold inR; omega) (fun b11 => ?_) (fun b11 => ?_)
            · skip
              omega
            · skip
              refine go_aload_n dX11_partingSet_14 rfl ?_
              refine go_iload_n dX11_partingSet_15 rfl ?_
              refine go_puti fl_X11_115 dX11_partingSet_16 sh_0 rfl am_fit_int ?_
              refine go_iload_n dX11_partingSet_19 rfl ?_
              refine go_iconst dX11_partingSet_20 ?_
              refine go_icmp_eq (tgt := 35) dX11_partingSet_21 (by decide) (by unfold inR; omega) (by unfold inR; omega) (fun b21 => ?_) (fun b21 => ?_)
              · skip
                omega
              · skip
                refine go_iload_n dX11_partingSet_24 rfl ?_
                refine go_csP1 (M2 := mX11_bits) dX11_partingSet_25 ml_X11_303 ms_X11_bits (Nat.le_of_ble_eq_true rfl) (by decide) (ev_X11_bits (by omega)) ?_
                refine go_iload_n dX11_partingSet_28 rfl ?_
                refine go_csP1 (M2 := mX11_bits) dX11_partingSet_29 ml_X11_303 ms_X11_bits (Nat.le_of_ble_eq_true rfl) (by decide) (ev_X11_bits (by omega)) ?_
                refine go_icmp_ge (tgt := 39) dX11_partingSet_32 (by decide) (by unfold inR; omega) (by unfold inR; omega) (fun b32 => ?_) (fun b32 => ?_)
                · skip
                  refine go_iconst dX11_partingSet_39 ?_
                  refine go_ist3 dX11_partingSet_40 (Nat.le_of_ble_eq_true rfl) rfl ?_
                  refine go_iload_n dX11_partingSet_41 rfl ?_
                  refine go_if_eq (tgt := 56) dX11_partingSet_42 (by decide) (by unfold inR; omega) (fun b42 => ?_) (fun b42 => ?_)
                  · skip
                    refine go_iload_n dX11_partingSet_56 rfl ?_
                    refine go_ist1 dX11_partingSet_57 (Nat.le_of_ble_eq_true rfl) rfl ?_
                    refine go_inc2 dX11_partingSet_58 (Nat.le_of_ble_eq_true rfl) rfl ?_
                    refine go_goto (tgt := 4) dX11_partingSet_61 (by decide) ?_
                    exact ih (n + 1) _ _ _ hm1 hn1 (bestM_keep hx (fun _ => ⟨b, rfl, by omega⟩)) oo hf2
                  · skip
                    exact absurd rfl b42
                · skip
                  omega
      · have en : n = 2 ^ s.2.1.length := by omega
        have hpart : mt_part s.2.1 = x := mt_part_eq (by
          rw [en] at hx
          rcases hx with z | ⟨b, h1, h2, h3, h4⟩
          · exact Or.inl z
          · exact Or.inr ⟨b, h1, h2, h3, h4⟩)
        have e5 : σ1.1 0 5 = (s.2.2.1 : Int) := by rw [ho.f 5 (by decide)]; exact h.2.1
        have o6 : fr [6] [] σ1 (am_si σ1 0 6 (s.2.2.1 : Int)) := fr_si (by decide)
        have oo : fr [6, 29] [16] σ (am_si σ1 0 6 (s.2.2.1 : Int)) := ho.tr (o6.wk (by decide) (by decide))
        refine go_iload_n dX11_partingSet_4 rfl ?_
        refine go_iconst dX11_partingSet_5 ?_
        refine go_aload_n dX11_partingSet_6 rfl ?_
        refine go_geti fl_X11_109 dX11_partingSet_7 sh_0 rfl ?_
        first | (rw [e0]) | (rw [e5]) | skip
        refine go_ishl dX11_partingSet_10 ?_
        rw [hsh]
        refine go_icmp_ge (tgt := 64) dX11_partingSet_11 (by decide) (by unfold inR; omega) (by unfold inR; omega) (fun b11 => ?_) (fun b11 => ?_)
        · skip
          refine go_aload_n dX11_partingSet_64 rfl ?_
          refine go_aload_n dX11_partingSet_65 rfl ?_
          refine go_geti fl_X11_112 dX11_partingSet_66 sh_0 rfl ?_
          first | (rw [e0]) | (rw [e5]) | skip
          refine go_puti fl_X11_115 dX11_partingSet_69 sh_0 rfl am_fit_int ?_
          refine go_iload_n dX11_partingSet_72 rfl ?_
          subst hQ
          refine go_retI dX11_partingSet_73 rfl ?_
          refine ⟨hpart.symm, ⟨⟨by rw [oo.f 0 (by decide)]; exact h.1.1, by simp [am_si], h.1.2.2.1.fr oo (by decide) (by decide), h.1.2.2.2.1.fr oo (by decide) (by decide), ht⟩, by rw [oo.f 5 (by decide)]; exact h.2.1, ⟨by rw [oo.f 7 (by decide)]; exact h.2.2.1.1, h.2.2.1.2.1.fr oo (by decide), h.2.2.1.2.2⟩, ⟨by rw [oo.f 9 (by decide)]; exact h.2.2.2.1.1, h.2.2.2.1.2.1.fr oo (by decide), h.2.2.2.1.2.2⟩, by rw [oo.f 11 (by decide)]; exact h.2.2.2.2.1, by rw [oo.f 12 (by decide)]; exact h.2.2.2.2.2.1, by rw [oo.f 13 (by decide)]; exact h.2.2.2.2.2.2.1, by rw [o6.f 29 (by decide)]; exact hf1⟩, oo⟩
        · skip
          omega
  refine am_ev (by decide) [some (.ref 0), none, none, none] rfl (Nat.le_of_ble_eq_true rfl) ?_
  refine go_iconst dX11_partingSet_0 ?_
  refine go_ist1 dX11_partingSet_1 (Nat.le_of_ble_eq_true rfl) rfl ?_
  refine go_iconst dX11_partingSet_2 ?_
  refine go_ist2 dX11_partingSet_3 (Nat.le_of_ble_eq_true rfl) rfl ?_
  exact loop (2 ^ s.2.1.length + 1) 0 (-1) none σ (by rw [Nat.sub_zero]; exact Nat.lt_succ_self _) (Nat.zero_le _) (Or.inl ⟨rfl, fun m hm => absurd hm (by omega)⟩) fr.rf h.2.2.2.2.2.2.2
theorem ev_X11_partingNow {σ : am_St} {s : mS} {w : Int} (h : RepM σ s) (hw : inR w) : am_Ev SH mX11_partingNow 9 [.ref 0, .int (iZ w)] σ (am_rI (fun x σ2 => x = mt_pval s.2.1 w ∧ RepM σ2 s ∧ am_off XM σ σ2)) := by
  have h8 := h.1.2.2.2.2.2.1
  rcases mt_part_bd h8 with hp | ⟨b, hb, hp⟩
  · have e : mt_pval s.2.1 w = -1 := by unfold mt_pval; rw [if_pos hp]
    refine am_ev (by decide) [some (.ref 0), some (.int (iZ (w))), none] rfl (Nat.le_of_ble_eq_true rfl) ?_
    refine go_aload_n dX11_partingNow_0 rfl ?_
    refine go_cvI0 (M2 := mX11_partingSet) dX11_partingNow_1 ml_X11_306 mv_X11_partingSet sh_0 rfl rfl (Nat.le_of_ble_eq_true rfl) (by decide) (ev_X11_partingSet h) (fun x σ1 hq => ?_)
    obtain ⟨rfl, hr1, ho⟩ := hq
    rw [hp]
    refine go_ist2 dX11_partingNow_4 (Nat.le_of_ble_eq_true rfl) rfl ?_
    refine go_iload_n dX11_partingNow_5 rfl ?_
    refine go_iconst dX11_partingNow_6 ?_
    refine go_icmp_ne (tgt := 14) dX11_partingNow_7 (by decide) (by unfold inR; omega) (by unfold inR; omega) (fun b7 => ?_) (fun b7 => ?_)
    · skip
      exact absurd rfl b7
    · skip
      refine go_iconst dX11_partingNow_10 ?_
      refine go_goto (tgt := 26) dX11_partingNow_11 (by decide) ?_
      refine go_retI dX11_partingNow_26 rfl ?_
      exact ⟨e.symm, hr1, ho.off (by decide)⟩
  · have e : mt_pval s.2.1 w = if w = 0 then mt_bc b else (b : Int) := by
      unfold mt_pval
      rw [if_neg (by omega), hp, Int.toNat_natCast]
    refine am_ev (by decide) [some (.ref 0), some (.int (iZ (w))), none] rfl (Nat.le_of_ble_eq_true rfl) ?_
    refine go_aload_n dX11_partingNow_0 rfl ?_
    refine go_cvI0 (M2 := mX11_partingSet) dX11_partingNow_1 ml_X11_306 mv_X11_partingSet sh_0 rfl rfl (Nat.le_of_ble_eq_true rfl) (by decide) (ev_X11_partingSet h) (fun x σ1 hq => ?_)
    obtain ⟨rfl, hr1, ho⟩ := hq
    rw [hp]
    refine go_ist2 dX11_partingNow_4 (Nat.le_of_ble_eq_true rfl) rfl ?_
    refine go_iload_n dX11_partingNow_5 rfl ?_
    refine go_iconst dX11_partingNow_6 ?_
    refine go_icmp_ne (tgt := 14) dX11_partingNow_7 (by decide) (by unfold inR; omega) (by unfold inR; omega) (fun b7 => ?_) (fun b7 => ?_)
    · skip
      refine go_iload_n dX11_partingNow_14 rfl ?_
      refine go_if_ne (tgt := 25) dX11_partingNow_15 (by decide) hw (fun b15 => ?_) (fun b15 => ?_)
      · skip
        refine go_iload_n dX11_partingNow_25 rfl ?_
        refine go_retI dX11_partingNow_26 rfl ?_
        refine ⟨?_, hr1, ho.off (by decide)⟩
        rw [e]
        first | (rw [if_pos (by omega)]; done) | (rw [if_neg (by omega)]; done)
      · skip
        refine go_iload_n dX11_partingNow_18 rfl ?_
        refine go_csP1 (M2 := mX11_bits) dX11_partingNow_19 ml_X11_303 ms_X11_bits (Nat.le_of_ble_eq_true rfl) (by decide) (ev_X11_bits hb) ?_
        refine go_goto (tgt := 26) dX11_partingNow_22 (by decide) ?_
        refine go_retI dX11_partingNow_26 rfl ?_
        refine ⟨?_, hr1, ho.off (by decide)⟩
        rw [e]
        first | (rw [if_pos (by omega)]; done) | (rw [if_neg (by omega)]; done)
    · skip
      omega
theorem ev_X11_parting {σ : am_St} {s : mS} {w : Int} (h : RepM σ s) (hw : inR w) : am_Ev SH mX11_parting 10 [.ref 0, .int (iZ w)] σ (am_rI (fun x σ2 => x = m_parting s w ∧ RepM σ2 s ∧ am_off XM σ σ2)) := by
  by_cases hin : 0 ≤ w ∧ w ≤ 1
  · have e : m_parting s w = mt_pval s.2.1 w := by unfold m_parting; rw [if_neg (by omega)]
    refine am_ev (by decide) [some (.ref 0), some (.int (iZ (w)))] rfl (Nat.le_of_ble_eq_true rfl) ?_
    refine go_iload_n dX11_parting_0 rfl ?_
    refine go_iconst dX11_parting_1 ?_
    refine go_iconst dX11_parting_2 ?_
    refine go_csP3 (M2 := mX11_within) dX11_parting_3 ml_X11_71 ms_X11_within (Nat.le_of_ble_eq_true rfl) (by decide) (ev_X11_within hw (by unfold inR; omega) (by unfold inR; omega)) ?_
    rw [if_pos hin]
    refine go_if_eq (tgt := 17) dX11_parting_6 (by decide) (by unfold inR; omega) (fun b6 => ?_) (fun b6 => ?_)
    · skip
      exact absurd b6 (by decide)
    · skip
      refine go_aload_n dX11_parting_9 rfl ?_
      refine go_iload_n dX11_parting_10 rfl ?_
      refine go_cvI1 (M2 := mX11_partingNow) dX11_parting_11 ml_X11_309 mv_X11_partingNow sh_0 rfl rfl (Nat.le_of_ble_eq_true rfl) (by decide) (ev_X11_partingNow h hw) (fun x σ1 hq => ?_)
      refine go_goto (tgt := 19) dX11_parting_14 (by decide) ?_
      refine go_retI dX11_parting_19 rfl ?_
      exact ⟨by rw [e]; exact hq.1, hq.2⟩
  · have e : m_parting s w = -102 := by unfold m_parting; rw [if_pos (by omega)]
    refine am_ev (by decide) [some (.ref 0), some (.int (iZ (w)))] rfl (Nat.le_of_ble_eq_true rfl) ?_
    refine go_iload_n dX11_parting_0 rfl ?_
    refine go_iconst dX11_parting_1 ?_
    refine go_iconst dX11_parting_2 ?_
    refine go_csP3 (M2 := mX11_within) dX11_parting_3 ml_X11_71 ms_X11_within (Nat.le_of_ble_eq_true rfl) (by decide) (ev_X11_within hw (by unfold inR; omega) (by unfold inR; omega)) ?_
    rw [if_neg hin]
    refine go_if_eq (tgt := 17) dX11_parting_6 (by decide) (by unfold inR; omega) (fun b6 => ?_) (fun b6 => ?_)
    · skip
      refine go_bipush dX11_parting_17 rfl ?_
      refine go_retI dX11_parting_19 rfl ?_
      exact ⟨e.symm, h, am_off.rf⟩
    · skip
      exact absurd rfl b6
