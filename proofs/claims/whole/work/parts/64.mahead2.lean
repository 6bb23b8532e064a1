/-! ===== the reference: layAheads, isClean, aheadsMany ===== -/
abbrev frr (fs as : List Nat) (σ σ' : am_St) : Prop := fr fs as σ σ'
theorem RepM.fr29 {fs as : List Nat} {σ σ' : am_St} {s : mS} (h : RepM σ s) (ho : frr fs as σ σ') (h1 : ∀ p ∈ [0, 5, 6, 7, 9, 11, 12, 13], p ∉ fs) (h2 : ∀ p ∈ [1, 2, 3, 4, 5, 6], p ∉ as) (hf : σ'.1 0 29 = 0 ∨ σ'.1 0 29 = 1) : RepM σ' s :=
  ⟨h.1.fr ho (fun p hp => h1 p (by revert p; decide)) (fun p hp => h2 p (by revert p; decide)), by rw [ho.f 5 (h1 5 (by decide))]; exact h.2.1, ⟨by rw [ho.f 7 (h1 7 (by decide))]; exact h.2.2.1.1, h.2.2.1.2.1.fr ho (h2 5 (by decide)), h.2.2.1.2.2⟩, ⟨by rw [ho.f 9 (h1 9 (by decide))]; exact h.2.2.2.1.1, h.2.2.2.1.2.1.fr ho (h2 6 (by decide)), h.2.2.2.1.2.2⟩, by rw [ho.f 11 (h1 11 (by decide))]; exact h.2.2.2.2.1, by rw [ho.f 12 (h1 12 (by decide))]; exact h.2.2.2.2.2.1, by rw [ho.f 13 (h1 13 (by decide))]; exact h.2.2.2.2.2.2.1, hf⟩
def clo (S ws : List (List Int)) : Prop := ∀ v ∈ ws, v ≠ [] → ∀ w, rm_nx S v w → w ∈ ws
/-- all aheads are laid -/
def ahA (σ : am_St) (S ws : List (List Int)) : Prop := ahd σ S ws ∧ ws.Nodup ∧ ∀ w, w ∈ ws ↔ Rem S w
theorem ev_X11_layAheads {σ : am_St} {L R : List (List Int)} {m : Nat} (h : tbM σ L R m) (hf : σ.1 0 29 = 0 ∨ σ.1 0 29 = 1) : am_Ev SH mX11_layAheads 6 [.ref 0] σ (am_rV (fun σ2 => (∃ ws, ahA σ2 (mt_sg R m) ws) ∧ (σ2.1 0 29 = 0 ∨ σ2.1 0 29 = 1) ∧ fr [29] [16] σ σ2)) := by
  have h8 := h.S8
  have hS : okS (mt_sg R m) := okS_sg h.2.2.2.2.2.2.2.2 h.2.2.2.2.2.1 m
  have l4 := fun r => (h.sg r).2
  generalize hQ : (am_rV (fun σ2 => (∃ ws, ahA σ2 (mt_sg R m) ws) ∧ (σ2.1 0 29 = 0 ∨ σ2.1 0 29 = 1) ∧ fr [29] [16] σ σ2)) = Q
  have exitL : ∀ (ws1 : List (List Int)) (o1 o2 : Option Value) (σ1 : am_St), fr [29] [16] σ σ1 → ahd σ1 (mt_sg R m) ws1 → rmL (mt_sg R m) ws1 → (∀ w, rm_st (mt_sg R m) w → w ∈ ws1) → σ1.1 0 29 = 0 → clo (mt_sg R m) ws1 → am_Go SH mX11_layAheads 6 Q 85 [some (.ref 0), o1, o2] [] σ1 := by
    intro ws1 o1 o2 σ1 ho ha hr hst h0 hc
    subst hQ
    refine go_aload_n dX11_layAheads_85 rfl ?_
    refine go_geti fl_X11_222 dX11_layAheads_86 sh_0 rfl ?_
    first | (rw [h0]) | skip
    refine go_if_eq (tgt := 136) dX11_layAheads_89 (by decide) (by unfold inR; omega) (fun b89 => ?_) (fun b89 => ?_)
    · skip
      refine go_retV dX11_layAheads_136 rfl ?_
      exact ⟨⟨ws1, ha, hr.1, fun w => ⟨hr.2 w, fun z => rm_close hst hc z⟩⟩, Or.inl h0, ho⟩
    · skip
      exact absurd rfl b89
  have whileL : ∀ (m2 : Nat) (ws1 : List (List Int)) (o1 o2 : Option Value) (σ1 : am_St), am_nl o2 = true → 26 - ws1.length < m2 → fr [29] [16] σ σ1 → ahd σ1 (mt_sg R m) ws1 → rmL (mt_sg R m) ws1 → (∀ w, rm_st (mt_sg R m) w → w ∈ ws1) → σ1.1 0 29 = 1 → am_Go SH mX11_layAheads 6 Q 85 [some (.ref 0), o1, o2] [] σ1 := by
    intro m2
    induction m2 with
    | zero => intro ws1 o1 o2 σ1 _ hm; exact absurd hm (by omega)
    | succ m2 ih =>
      intro ws1 o1 o2 σ1 no2 hm ho ha hr hst h1
      have pass : ∀ (m3 : Nat) (k : Nat) (ws3 : List (List Int)) (σ3 : am_St), 40 - k < m3 → k ≤ 40 → fr [29] [16] σ σ3 → ahd σ3 (mt_sg R m) ws3 → rmL (mt_sg R m) ws3 → (∀ w ∈ ws1, w ∈ ws3) → moreM 0 (σ3.1 0 29) ws1 ws3 → (σ3.1 0 29 = 0 → ∀ v ∈ ws1, v ≠ [] → ∀ j, j < k → isL (mt_sg R m) v j → ∀ w, rm_nx (mt_sg R m) v w → w ∈ ws1) → am_Go SH mX11_layAheads 6 Q 99 [some (.ref 0), some (.int (iZ (k : Int))), o2] [] σ3 := by
        intro m3
        induction m3 with
        | zero => intro k ws3 σ3 hm3; exact absurd hm3 (by omega)
        | succ m3 ih3 =>
          intro k ws3 σ3 hm3 hk ho3 ha3 hr3 hsub hmr hdone
          have t3 := h.fr ho3 (by decide) (by decide)
          by_cases hlt : k < 40
          · rcases ha3.1 k hlt with ⟨e16, w, hw, hl⟩ | ⟨e16, hno⟩
            · have hwp := hl.2.1
              by_cases hwn : w = []
              · skip
                refine go_iload_n dX11_layAheads_99 rfl ?_
                refine go_bipush dX11_layAheads_100 rfl ?_
                refine go_icmp_ge (tgt := 133) dX11_layAheads_102 (by decide) (by unfold inR; omega) (by unfold inR; omega) (fun b102 => ?_) (fun b102 => ?_)
                · skip
                  omega
                · skip
                  refine go_aload_n dX11_layAheads_105 rfl ?_
                  refine go_getr fl_X11_55 dX11_layAheads_106 sh_0 rfl ?_
                  refine go_iload_n dX11_layAheads_109 rfl ?_
                  refine go_baload dX11_layAheads_110 (by first | assumption | rfl) (by first | assumption | exact Nat.le_of_ble_eq_true rfl) (by omega) (by omega) ?_
                  first | (rw [e16]) | skip
                  refine go_if_eq (tgt := 127) dX11_layAheads_111 (by decide) (by unfold inR; omega) (fun b111 => ?_) (fun b111 => ?_)
                  · skip
                    exact absurd b111 (by decide)
                  · skip
                    refine go_aload_n dX11_layAheads_114 rfl ?_
                    refine go_iload_n dX11_layAheads_115 rfl ?_
                    refine go_cvP1 (M2 := mX11_lengthOf) dX11_layAheads_116 ml_X11_207 mv_X11_lengthOf sh_0 rfl rfl (Nat.le_of_ble_eq_true rfl) (by decide) (ev_X11_lengthOf t3 hl.1) ?_
                    rw [hwp, hwn]
                    refine go_if_le (tgt := 127) dX11_layAheads_119 (by decide) (by simp only [List.length_nil]; unfold inR; omega) (fun b119 => ?_) (fun b119 => ?_)
                    · skip
                      refine go_inc1 dX11_layAheads_127 (Nat.le_of_ble_eq_true rfl) rfl ?_
                      refine go_goto (tgt := 99) dX11_layAheads_130 (by decide) ?_
                      refine ih3 (k + 1) ws3 _ (by omega) (by omega) ho3 ha3 hr3 hsub hmr (fun z v hv hvn j hj hjl => ?_)
                      by_cases e : j = k
                      · subst e; exact absurd (by rw [← hjl.2.1, hwp, hwn]) hvn
                      · exact hdone z v hv hvn j (by omega) hjl
                    · skip
                      exact absurd (by simp) b119
              · have hlen : 0 < w.length := List.length_pos_iff.mpr hwn
                have gf := ev_X11_goOnFrom t3 hl.1 hlt ha3 hr3.1 hmr.1
                rw [hwp] at gf
                have l4w := (h.pk k).2
                rw [hwp] at l4w
                refine go_iload_n dX11_layAheads_99 rfl ?_
                refine go_bipush dX11_layAheads_100 rfl ?_
                refine go_icmp_ge (tgt := 133) dX11_layAheads_102 (by decide) (by unfold inR; omega) (by unfold inR; omega) (fun b102 => ?_) (fun b102 => ?_)
                · skip
                  omega
                · skip
                  refine go_aload_n dX11_layAheads_105 rfl ?_
                  refine go_getr fl_X11_55 dX11_layAheads_106 sh_0 rfl ?_
                  refine go_iload_n dX11_layAheads_109 rfl ?_
                  refine go_baload dX11_layAheads_110 (by first | assumption | rfl) (by first | assumption | exact Nat.le_of_ble_eq_true rfl) (by omega) (by omega) ?_
                  first | (rw [e16]) | skip
                  refine go_if_eq (tgt := 127) dX11_layAheads_111 (by decide) (by unfold inR; omega) (fun b111 => ?_) (fun b111 => ?_)
                  · skip
                    exact absurd b111 (by decide)
                  · skip
                    refine go_aload_n dX11_layAheads_114 rfl ?_
                    refine go_iload_n dX11_layAheads_115 rfl ?_
                    refine go_cvP1 (M2 := mX11_lengthOf) dX11_layAheads_116 ml_X11_207 mv_X11_lengthOf sh_0 rfl rfl (Nat.le_of_ble_eq_true rfl) (by decide) (ev_X11_lengthOf t3 hl.1) ?_
                    rw [hwp]
                    refine go_if_le (tgt := 127) dX11_layAheads_119 (by decide) (by unfold inR; omega) (fun b119 => ?_) (fun b119 => ?_)
                    · skip
                      omega
                    · skip
                      refine go_aload_n dX11_layAheads_122 rfl ?_
                      refine go_iload_n dX11_layAheads_123 rfl ?_
                      refine go_cvV1 (M2 := mX11_goOnFrom) dX11_layAheads_124 ml_X11_236 mv_X11_goOnFrom sh_0 rfl rfl (Nat.le_of_ble_eq_true rfl) (by decide) (gf) (fun σ4 hq => ?_)
                      obtain ⟨ws4, g1, g2, g3, g4, g5, g6⟩ := hq
                      refine go_inc1 dX11_layAheads_127 (Nat.le_of_ble_eq_true rfl) rfl ?_
                      refine go_goto (tgt := 99) dX11_layAheads_130 (by decide) ?_
                      have hr4 : rmL (mt_sg R m) ws4 := ⟨g2, fun x hx => (g3.2 x hx).elim (hr3.2 x) (fun z => (hr3.2 w hw).nx hwn z)⟩
                      refine ih3 (k + 1) ws4 _ (by omega) (by omega) (ho3.tr g6) g1 hr4 (fun x hx => g3.1 x (hsub x hx)) (hmr.tr g5) (fun z v hv hvn j hj hjl => ?_)
                      have q1 := g5.2.1 z
                      have q2 := hmr.2.1 q1.1
                      by_cases e : j = k
                      · subst e
                        have hvw : v = w := by rw [← hjl.2.1, hwp]
                        rw [hvw]
                        intro x hx
                        have := g4 x hx
                        rw [q1.2, q2.2] at this
                        exact this
                      · exact hdone q1.1 v hv hvn j (by omega) hjl
            · skip
              refine go_iload_n dX11_layAheads_99 rfl ?_
              refine go_bipush dX11_layAheads_100 rfl ?_
              refine go_icmp_ge (tgt := 133) dX11_layAheads_102 (by decide) (by unfold inR; omega) (by unfold inR; omega) (fun b102 => ?_) (fun b102 => ?_)
              · skip
                omega
              · skip
                refine go_aload_n dX11_layAheads_105 rfl ?_
                refine go_getr fl_X11_55 dX11_layAheads_106 sh_0 rfl ?_
                refine go_iload_n dX11_layAheads_109 rfl ?_
                refine go_baload dX11_layAheads_110 (by first | assumption | rfl) (by first | assumption | exact Nat.le_of_ble_eq_true rfl) (by omega) (by omega) ?_
                first | (rw [e16]) | skip
                refine go_if_eq (tgt := 127) dX11_layAheads_111 (by decide) (by unfold inR; omega) (fun b111 => ?_) (fun b111 => ?_)
                · skip
                  refine go_inc1 dX11_layAheads_127 (Nat.le_of_ble_eq_true rfl) rfl ?_
                  refine go_goto (tgt := 99) dX11_layAheads_130 (by decide) ?_
                  refine ih3 (k + 1) ws3 _ (by omega) (by omega) ho3 ha3 hr3 hsub hmr (fun z v hv hvn j hj hjl => ?_)
                  by_cases e : j = k
                  · subst e; exact absurd ⟨v, hsub v hv, hjl⟩ hno
                  · exact hdone z v hv hvn j (by omega) hjl
                · skip
                  exact absurd rfl b111
          · have hst3 : ∀ w, rm_st (mt_sg R m) w → w ∈ ws3 := fun w hw => hsub w (hst w hw)
            refine go_iload_n dX11_layAheads_99 rfl ?_
            refine go_bipush dX11_layAheads_100 rfl ?_
            refine go_icmp_ge (tgt := 133) dX11_layAheads_102 (by decide) (by unfold inR; omega) (by unfold inR; omega) (fun b102 => ?_) (fun b102 => ?_)
            · skip
              refine go_goto (tgt := 85) dX11_layAheads_133 (by decide) ?_
              rcases hmr.1 with z | z
              · have q := hmr.2.1 z
                refine exitL ws3 _ _ _ ho3 ha3 hr3 hst3 z (fun v hv hvn w hw => ?_)
                rw [q.2] at hv ⊢
                obtain ⟨j, hj, hjl⟩ := ha.2 v hv
                exact hdone z v hv hvn j (by omega) hjl w hw
              · have q := hmr.2.2.1 rfl z
                have q2 := Rem_len hS hr3.1 hr3.2
                exact ih ws3 _ _ _ no2 (by omega) ho3 ha3 hr3 hst3 z
            · skip
              omega
      refine go_aload_n dX11_layAheads_85 rfl ?_
      refine go_geti fl_X11_222 dX11_layAheads_86 sh_0 rfl ?_
      first | (rw [h1]) | skip
      refine go_if_eq (tgt := 136) dX11_layAheads_89 (by decide) (by unfold inR; omega) (fun b89 => ?_) (fun b89 => ?_)
      · skip
        exact absurd b89 (by decide)
      · skip
        refine go_aload_n dX11_layAheads_92 rfl ?_
        refine go_iconst dX11_layAheads_93 ?_
        refine go_puti fl_X11_222 dX11_layAheads_94 sh_0 rfl (am_fit_bool (Or.inl rfl)) ?_
        refine go_iconst dX11_layAheads_97 ?_
        refine go_ist1 dX11_layAheads_98 (Nat.le_of_ble_eq_true rfl) rfl ?_
        have e0 : (am_si σ1 0 29 0).1 0 29 = 0 := by simp [am_si]
        have o0 : fr [29] [] σ1 (am_si σ1 0 29 0) := fr_si (by decide)
        refine pass 41 0 ws1 _ (by omega) (by omega) (ho.tr (o0.wk (by decide) (by decide))) (ha.fr o0 (by decide)) hr (fun w hw => hw) (by rw [e0]; exact moreM.rf (Or.inl rfl)) (fun _ v _ _ j hj => absurd hj (by omega))
  have loopA : ∀ (m2 : Nat) (a : Nat) (ws1 : List (List Int)) (o2 : Option Value) (σ1 : am_St), am_nl o2 = true → R.length - a < m2 → a ≤ R.length → fr [29] [16] σ σ1 → (σ1.1 0 29 = 0 ∨ σ1.1 0 29 = 1) → ahd σ1 (mt_sg R m) ws1 → rmL (mt_sg R m) ws1 → (∀ i j, i ≠ j → i < a → j < R.length → (mt_sg R m).getD i [] <+: (mt_sg R m).getD j [] → ((mt_sg R m).getD j []).drop ((mt_sg R m).getD i []).length ∈ ws1) → am_Go SH mX11_layAheads 6 Q 23 [some (.ref 0), some (.int (iZ (a : Int))), o2] [] σ1 := by
    intro m2
    induction m2 with
    | zero => intro a ws1 o2 σ1 _ hm; exact absurd hm (by omega)
    | succ m2 ih =>
      intro a ws1 o2 σ1 no2 hm ha2 ho hfl ha hr hd
      have t1 := h.fr ho (by decide) (by decide)
      by_cases hlt : a < R.length
      · have loopB : ∀ (m3 : Nat) (b : Nat) (ws3 : List (List Int)) (σ3 : am_St), R.length - b < m3 → b ≤ R.length → fr [29] [16] σ σ3 → (σ3.1 0 29 = 0 ∨ σ3.1 0 29 = 1) → ahd σ3 (mt_sg R m) ws3 → rmL (mt_sg R m) ws3 → (∀ w ∈ ws1, w ∈ ws3) → (∀ j, a ≠ j → j < b → (mt_sg R m).getD a [] <+: (mt_sg R m).getD j [] → ((mt_sg R m).getD j []).drop ((mt_sg R m).getD a []).length ∈ ws3) → am_Go SH mX11_layAheads 6 Q 33 [some (.ref 0), some (.int (iZ (a : Int))), some (.int (iZ (b : Int)))] [] σ3 := by
          intro m3
          induction m3 with
          | zero => intro b ws3 σ3 hm3; exact absurd hm3 (by omega)
          | succ m3 ih3 =>
            intro b ws3 σ3 hm3 hb ho3 hfl3 ha3 hr3 hsub hd3
            have t3 := h.fr ho3 (by decide) (by decide)
            by_cases hltb : b < R.length
            · by_cases heq : a = b
              · skip
                refine go_iload_n dX11_layAheads_33 rfl ?_
                refine go_aload_n dX11_layAheads_34 rfl ?_
                refine go_geti fl_X11_109 dX11_layAheads_35 sh_0 rfl ?_
                rw [t3.1]
                refine go_icmp_ge (tgt := 74) dX11_layAheads_38 (by decide) (by unfold inR; omega) (by unfold inR; omega) (fun b38 => ?_) (fun b38 => ?_)
                · skip
                  omega
                · skip
                  refine go_iload_n dX11_layAheads_41 rfl ?_
                  refine go_iload_n dX11_layAheads_42 rfl ?_
                  refine go_icmp_eq (tgt := 68) dX11_layAheads_43 (by decide) (by unfold inR; omega) (by unfold inR; omega) (fun b43 => ?_) (fun b43 => ?_)
                  · skip
                    refine go_inc2 dX11_layAheads_68 (Nat.le_of_ble_eq_true rfl) rfl ?_
                    refine go_goto (tgt := 33) dX11_layAheads_71 (by decide) ?_
                    refine ih3 (b + 1) ws3 _ (by omega) (by omega) ho3 hfl3 ha3 hr3 hsub (fun j hj hjb => ?_)
                    exact hd3 j hj (by omega)
                  · skip
                    omega
              · by_cases hbg : (mt_sg R m).getD a [] <+: (mt_sg R m).getD b []
                · have hle := hbg.length_le
                  have l4a := l4 a
                  have hok := okp_mk (S := mt_sg R m) (r := b) (q := ((mt_sg R m).getD a []).length) (by omega) (by omega) hle
                  have ept := pt_mk (S := mt_sg R m) (r := b) (q := ((mt_sg R m).getD a []).length) (by omega)
                  have cm := ev_X11_comesAhead t3 hok (by omega) ha3 hfl3
                  rw [ept] at cm
                  have hRem : Rem (mt_sg R m) (((mt_sg R m).getD b []).drop ((mt_sg R m).getD a []).length) := Rem.st ⟨a, b, _, _, heq, by rw [getD_in (by omega)]; exact List.getElem?_eq_getElem _, by rw [getD_in (by omega)]; exact List.getElem?_eq_getElem _, hbg, rfl⟩
                  refine go_iload_n dX11_layAheads_33 rfl ?_
                  refine go_aload_n dX11_layAheads_34 rfl ?_
                  refine go_geti fl_X11_109 dX11_layAheads_35 sh_0 rfl ?_
                  rw [t3.1]
                  refine go_icmp_ge (tgt := 74) dX11_layAheads_38 (by decide) (by unfold inR; omega) (by unfold inR; omega) (fun b38 => ?_) (fun b38 => ?_)
                  · skip
                    omega
                  · skip
                    refine go_iload_n dX11_layAheads_41 rfl ?_
                    refine go_iload_n dX11_layAheads_42 rfl ?_
                    refine go_icmp_eq (tgt := 68) dX11_layAheads_43 (by decide) (by unfold inR; omega) (by unfold inR; omega) (fun b43 => ?_) (fun b43 => ?_)
                    · skip
                      omega
                    · skip
                      refine go_aload_n dX11_layAheads_46 rfl ?_
                      refine go_iload_n dX11_layAheads_47 rfl ?_
                      refine go_iload_n dX11_layAheads_48 rfl ?_
                      refine go_cvP2 (M2 := mX11_begins) dX11_layAheads_49 ml_X11_157 mv_X11_begins sh_0 rfl rfl (Nat.le_of_ble_eq_true rfl) (by decide) (ev_X11_begins t3 hlt hltb) ?_
                      rw [if_pos hbg]
                      refine go_if_eq (tgt := 68) dX11_layAheads_52 (by decide) (by unfold inR; omega) (fun b52 => ?_) (fun b52 => ?_)
                      · skip
                        exact absurd b52 (by decide)
                      · skip
                        refine go_aload_n dX11_layAheads_55 rfl ?_
                        refine go_iconst dX11_layAheads_56 ?_
                        refine go_iload_n dX11_layAheads_57 rfl ?_
                        refine go_imul dX11_layAheads_58 ?_
                        refine go_aload_n dX11_layAheads_59 rfl ?_
                        refine go_iload_n dX11_layAheads_60 rfl ?_
                        refine go_cvP1 (M2 := mX11_signLength) dX11_layAheads_61 ml_X11_137 mv_X11_signLength sh_0 rfl rfl (Nat.le_of_ble_eq_true rfl) (by decide) (ev_X11_signLength t3 hlt) ?_
                        refine go_iadd dX11_layAheads_64 ?_
                        rw [show 5 * (b : Int) + (((mt_sg R m).getD a []).length : Int) = ((5 * b + ((mt_sg R m).getD a []).length : Nat) : Int) by omega]
                        refine go_cvV1 (M2 := mX11_comesAhead) dX11_layAheads_65 ml_X11_229 mv_X11_comesAhead sh_0 rfl rfl (Nat.le_of_ble_eq_true rfl) (by decide) (cm) (fun σ4 hq => ?_)
                        refine go_inc2 dX11_layAheads_68 (Nat.le_of_ble_eq_true rfl) rfl ?_
                        refine go_goto (tgt := 33) dX11_layAheads_71 (by decide) ?_
                        refine ih3 (b + 1) _ _ (by omega) (by omega) (ho3.tr hq.2.2) hq.2.1.1 hq.1 (hr3.add hRem) (fun w hw => (rm_add_iff _ _ _).mpr (Or.inl (hsub w hw))) (fun j hj hjb hjp => ?_)
                        by_cases e : j = b
                        · subst e; exact rm_add_mem _ _
                        · exact (rm_add_iff _ _ _).mpr (Or.inl (hd3 j hj (by omega) hjp))
                · skip
                  refine go_iload_n dX11_layAheads_33 rfl ?_
                  refine go_aload_n dX11_layAheads_34 rfl ?_
                  refine go_geti fl_X11_109 dX11_layAheads_35 sh_0 rfl ?_
                  rw [t3.1]
                  refine go_icmp_ge (tgt := 74) dX11_layAheads_38 (by decide) (by unfold inR; omega) (by unfold inR; omega) (fun b38 => ?_) (fun b38 => ?_)
                  · skip
                    omega
                  · skip
                    refine go_iload_n dX11_layAheads_41 rfl ?_
                    refine go_iload_n dX11_layAheads_42 rfl ?_
                    refine go_icmp_eq (tgt := 68) dX11_layAheads_43 (by decide) (by unfold inR; omega) (by unfold inR; omega) (fun b43 => ?_) (fun b43 => ?_)
                    · skip
                      omega
                    · skip
                      refine go_aload_n dX11_layAheads_46 rfl ?_
                      refine go_iload_n dX11_layAheads_47 rfl ?_
                      refine go_iload_n dX11_layAheads_48 rfl ?_
                      refine go_cvP2 (M2 := mX11_begins) dX11_layAheads_49 ml_X11_157 mv_X11_begins sh_0 rfl rfl (Nat.le_of_ble_eq_true rfl) (by decide) (ev_X11_begins t3 hlt hltb) ?_
                      rw [if_neg hbg]
                      refine go_if_eq (tgt := 68) dX11_layAheads_52 (by decide) (by unfold inR; omega) (fun b52 => ?_) (fun b52 => ?_)
                      · skip
                        refine go_inc2 dX11_layAheads_68 (Nat.le_of_ble_eq_true rfl) rfl ?_
                        refine go_goto (tgt := 33) dX11_layAheads_71 (by decide) ?_
                        refine ih3 (b + 1) ws3 _ (by omega) (by omega) ho3 hfl3 ha3 hr3 hsub (fun j hj hjb hjp => ?_)
                        by_cases e : j = b
                        · subst e; exact absurd hjp hbg
                        · exact hd3 j hj (by omega) hjp
                      · skip
                        exact absurd rfl b52
            · skip
              refine go_iload_n dX11_layAheads_33 rfl ?_
              refine go_aload_n dX11_layAheads_34 rfl ?_
              refine go_geti fl_X11_109 dX11_layAheads_35 sh_0 rfl ?_
              rw [t3.1]
              refine go_icmp_ge (tgt := 74) dX11_layAheads_38 (by decide) (by unfold inR; omega) (by unfold inR; omega) (fun b38 => ?_) (fun b38 => ?_)
              · skip
                refine go_inc1 dX11_layAheads_74 (Nat.le_of_ble_eq_true rfl) rfl ?_
                refine go_goto (tgt := 23) dX11_layAheads_77 (by decide) ?_
                refine ih (a + 1) ws3 _ _ rfl (by omega) (by omega) ho3 hfl3 ha3 hr3 (fun i j hij hi hj hp => ?_)
                by_cases e : i = a
                · subst e; exact hd3 j hij (by omega) hp
                · exact hsub _ (hd i j hij (by omega) hj hp)
              · skip
                omega
        refine go_iload_n dX11_layAheads_23 rfl ?_
        refine go_aload_n dX11_layAheads_24 rfl ?_
        refine go_geti fl_X11_109 dX11_layAheads_25 sh_0 rfl ?_
        rw [t1.1]
        refine go_icmp_ge (tgt := 80) dX11_layAheads_28 (by decide) (by unfold inR; omega) (by unfold inR; omega) (fun b28 => ?_) (fun b28 => ?_)
        · skip
          omega
        · skip
          refine go_iconst dX11_layAheads_31 ?_
          refine go_ist2 dX11_layAheads_32 (Nat.le_of_ble_eq_true rfl) rfl ?_
          exact loopB (R.length + 1) 0 ws1 _ (by omega) (by omega) ho hfl ha hr (fun w hw => hw) (fun j _ hj => absurd hj (by omega))
      · have hst : ∀ w, rm_st (mt_sg R m) w → w ∈ ws1 := by
          rintro w ⟨i, j, x, y, hij, hx, hy, hp, rfl⟩
          have hi : i < (mt_sg R m).length := by rcases Nat.lt_or_ge i (mt_sg R m).length with z | z; exact z; rw [List.getElem?_eq_none z] at hx; cases hx
          have hj : j < (mt_sg R m).length := by rcases Nat.lt_or_ge j (mt_sg R m).length with z | z; exact z; rw [List.getElem?_eq_none z] at hy; cases hy
          have ex : (mt_sg R m).getD i [] = x := by simp [List.getD, hx]
          have ey : (mt_sg R m).getD j [] = y := by simp [List.getD, hy]
          have := hd i j hij (by omega) (by omega)
          rw [ex, ey] at this
          exact this hp
        have o0 : fr [29] [] σ1 (am_si σ1 0 29 1) := fr_si (by decide)
        refine go_iload_n dX11_layAheads_23 rfl ?_
        refine go_aload_n dX11_layAheads_24 rfl ?_
        refine go_geti fl_X11_109 dX11_layAheads_25 sh_0 rfl ?_
        rw [t1.1]
        refine go_icmp_ge (tgt := 80) dX11_layAheads_28 (by decide) (by unfold inR; omega) (by unfold inR; omega) (fun b28 => ?_) (fun b28 => ?_)
        · skip
          refine go_aload_n dX11_layAheads_80 rfl ?_
          refine go_iconst dX11_layAheads_81 ?_
          refine go_puti fl_X11_222 dX11_layAheads_82 sh_0 rfl (am_fit_bool (Or.inr rfl)) ?_
          exact whileL 27 ws1 _ _ _ no2 (by omega) (ho.tr (o0.wk (by decide) (by decide))) (ha.fr o0 (by decide)) hr hst (by simp [am_si])
        · skip
          omega
  have loop0 : ∀ (m2 : Nat) (k : Nat) (o2 : Option Value) (σ1 : am_St), am_nl o2 = true → 40 - k < m2 → k ≤ 40 → fr [29] [16] σ σ1 → (σ1.1 0 29 = 0 ∨ σ1.1 0 29 = 1) → (∀ j : Nat, j < k → σ1.2.2 16 (j : Int) = 0) → am_Go SH mX11_layAheads 6 Q 2 [some (.ref 0), some (.int (iZ (k : Int))), o2] [] σ1 := by
    intro m2
    induction m2 with
    | zero => intro k o2 σ1 _ hm; exact absurd hm (by omega)
    | succ m2 ih =>
      intro k o2 σ1 no2 hm hk ho hfl hz
      refine go_iload_n dX11_layAheads_2 rfl ?_
      refine go_bipush dX11_layAheads_3 rfl ?_
      refine go_icmp_ge (tgt := 21) dX11_layAheads_5 (by decide) (by unfold inR; omega) (by unfold inR; omega) (fun b5 => ?_) (fun b5 => ?_)
      · skip
        refine go_iconst dX11_layAheads_21 ?_
        refine go_ist1 dX11_layAheads_22 (Nat.le_of_ble_eq_true rfl) rfl ?_
        exact loopA (R.length + 1) 0 [] _ _ no2 (by omega) (by omega) ho hfl ⟨fun j hj => Or.inr ⟨hz j (by omega), by rintro ⟨w, hw, _⟩; exact nomatch hw⟩, fun w hw => nomatch hw⟩ ⟨List.nodup_nil, fun w hw => nomatch hw⟩ (fun i j _ hi => absurd hi (by omega))
      · skip
        refine go_aload_n dX11_layAheads_8 rfl ?_
        refine go_getr fl_X11_55 dX11_layAheads_9 sh_0 rfl ?_
        refine go_iload_n dX11_layAheads_12 rfl ?_
        refine go_iconst dX11_layAheads_13 ?_
        refine go_bastore dX11_layAheads_14 (by first | assumption | rfl) (by first | assumption | exact Nat.le_of_ble_eq_true rfl) (by omega) (by omega) (Or.inl rfl) ?_
        refine go_inc1 dX11_layAheads_15 (Nat.le_of_ble_eq_true rfl) rfl ?_
        refine go_goto (tgt := 2) dX11_layAheads_18 (by decide) ?_
        refine ih (k + 1) _ _ no2 (by omega) (by omega) (ho.tr (fr_sa (by decide))) hfl (fun j hj => ?_)
        by_cases e : j = k
        · subst e; exact am_sa_eq
        · rw [am_sa_ne (by omega)]; exact hz j (by omega)
  subst hQ
  refine am_ev (by decide) [some (.ref 0), none, none] rfl (Nat.le_of_ble_eq_true rfl) ?_
  refine go_iconst dX11_layAheads_0 ?_
  refine go_ist1 dX11_layAheads_1 (Nat.le_of_ble_eq_true rfl) rfl ?_
  exact loop0 41 0 none σ rfl (by omega) (by omega) fr.rf hf (fun j hj => absurd hj (by omega))
