/-! ===== the reference: goesOn, layBehind ===== -/
theorem lsO_mono {β β1 : BT} (h : ble β β1) {v c : List Int} (hl : lsO c (β1 v) = true) : lsO c (β v) = true := by
  cases hb : β v with
  | none => rfl
  | some y =>
    have := lsO_le hl (h v y hb)
    exact decide_eq_true this
theorem ev_X11_goesOn {σ : am_St} {L R Ls : List (List Int)} {m k : Nat} {β : BT} {v : List Int} (h : tbM σ L R m) (hb : bhM σ (mt_sg R m) β) (hI : bI (mt_sg R m) β Ls) (hk : k < 40) (hv : isL (mt_sg R m) v k) (hne : v ≠ []) : am_Ev SH mX11_goesOn 5 [.ref 0, .int (iZ (k : Int))] σ (am_rI (fun x σ2 => ∃ β2 Ls2, bhM σ2 (mt_sg R m) β2 ∧ bI (mt_sg R m) β2 Ls2 ∧ ble β β2 ∧ (∀ s ∈ mt_sg R m, ∀ c, bcand β v s = some c → leO (β2 v) c) ∧ ((x = 0 ∧ β2 = β) ∨ (x = 1 ∧ ∃ c, Be (mt_sg R m) v c ∧ lsO c (β v) = true)) ∧ fr [32] [17, 18, 19] σ σ2)) := by
  have hS : okS (mt_sg R m) := okS_sg h.2.2.2.2.2.2.2.2 h.2.2.2.2.2.1 m
  have h8 := h.S8
  generalize hQ : (am_rI (fun x σ2 => ∃ β2 Ls2, bhM σ2 (mt_sg R m) β2 ∧ bI (mt_sg R m) β2 Ls2 ∧ ble β β2 ∧ (∀ s ∈ mt_sg R m, ∀ c, bcand β v s = some c → leO (β2 v) c) ∧ ((x = 0 ∧ β2 = β) ∨ (x = 1 ∧ ∃ c, Be (mt_sg R m) v c ∧ lsO c (β v) = true)) ∧ fr [32] [17, 18, 19] σ σ2)) = Q
  have loop : ∀ (m2 : Nat) (r : Nat) (y : Int) (β1 : BT) (Ls1 : List (List Int)) (σ1 : am_St), R.length - r < m2 → r ≤ R.length → fr [32] [17, 18, 19] σ σ1 → bhM σ1 (mt_sg R m) β1 → bI (mt_sg R m) β1 Ls1 → ble β β1 → (∀ r', r' < r → ∀ c, bcand β v ((mt_sg R m).getD r' []) = some c → leO (β1 v) c) → ((y = 0 ∧ β1 = β) ∨ (y = 1 ∧ ∃ c, Be (mt_sg R m) v c ∧ lsO c (β v) = true)) → am_Go SH mX11_goesOn 5 Q 4 [some (.ref 0), some (.int (iZ (k : Int))), some (.int (iZ y)), some (.int (iZ (r : Int)))] [] σ1 := by
    intro m2
    induction m2 with
    | zero => intro r y β1 Ls1 σ1 hm; exact absurd hm (by omega)
    | succ m2 ih =>
      intro r y β1 Ls1 σ1 hm hr ho hb1 hI1 hle hd hy
      have t1 := h.fr ho (by decide) (by decide)
      have hy01 : y = 0 ∨ y = 1 := hy.elim (fun z => Or.inl z.1) (fun z => Or.inr z.1)
      by_cases hlt : r < R.length
      · have hmemS : (mt_sg R m).getD r [] ∈ mt_sg R m := by rw [getD_in (by omega)]; exact List.getElem_mem _
        have tail : ∀ (x : Int) (σ2 : am_St), (((x = 1 ∧ ∃ c, bcand β1 v ((mt_sg R m).getD r []) = some c ∧ lsO c (β1 v) = true ∧ bhM σ2 (mt_sg R m) (bset β1 v c)) ∨ (x = 0 ∧ (∀ c, bcand β1 v ((mt_sg R m).getD r []) = some c → lsO c (β1 v) = false) ∧ bhM σ2 (mt_sg R m) β1)) ∧ fr [32] [17, 18, 19] σ1 σ2) → am_Go SH mX11_goesOn 5 Q 18 [some (.ref 0), some (.int (iZ (k : Int))), some (.int (iZ y)), some (.int (iZ (r : Int)))] [.int (iZ x)] σ2 := by
          rintro x σ2 ⟨⟨rfl, c1, hc1, hl1, hb2⟩ | ⟨rfl, hno, hb2⟩, ho2⟩
          · obtain ⟨Ls2, hI2⟩ := bI_set hS hI1 hk hv.2.1.symm hne hmemS hc1 hl1
            have hle2 := ble_set hl1
            refine go_if_ne (tgt := 25) dX11_goesOn_18 (by decide) (by unfold inR; omega) (fun b18 => ?_) (fun b18 => ?_)
            · skip
              refine go_iconst dX11_goesOn_25 ?_
              refine go_goto (tgt := 30) dX11_goesOn_26 (by decide) ?_
              refine go_ist2 dX11_goesOn_30 (Nat.le_of_ble_eq_true rfl) rfl ?_
              refine go_inc3 dX11_goesOn_31 (Nat.le_of_ble_eq_true rfl) rfl ?_
              refine go_goto (tgt := 4) dX11_goesOn_34 (by decide) ?_
              refine ih (r + 1) 1 _ Ls2 _ (by omega) (by omega) (ho.tr ho2) hb2 hI2 (hle.tr hle2) (fun r' hr' c hc => ?_) (Or.inr ⟨rfl, c1, bcand_be hI1 hne hmemS hc1, lsO_mono hle hl1⟩)
              by_cases e : r' = r
              · subst e
                obtain ⟨z, hz, hzc⟩ := bcand_mono hS hI hI1 hle hc
                rw [hc1] at hz
                exact ⟨c1, bset_eq, by rw [Option.some.inj hz]; exact hzc⟩
              · exact hle2.le (hd r' (by omega) c hc)
            · skip
              exact absurd b18 (by decide)
          · have nxt : ∀ r', r' < r + 1 → ∀ c, bcand β v ((mt_sg R m).getD r' []) = some c → leO (β1 v) c := by
              intro r' hr' c hc
              by_cases e : r' = r
              · subst e
                obtain ⟨z, hz, hzc⟩ := bcand_mono hS hI hI1 hle hc
                obtain ⟨u, hu, huz⟩ := lsO_not (hno z hz)
                exact ⟨u, hu, by omega⟩
              · exact hd r' (by omega) c hc
            rcases hy01 with rfl | rfl
            · skip
              refine go_if_ne (tgt := 25) dX11_goesOn_18 (by decide) (by unfold inR; omega) (fun b18 => ?_) (fun b18 => ?_)
              · skip
                exact absurd rfl b18
              · skip
                refine go_iload_n dX11_goesOn_21 rfl ?_
                refine go_if_eq (tgt := 29) dX11_goesOn_22 (by decide) (by unfold inR; omega) (fun b22 => ?_) (fun b22 => ?_)
                · skip
                  refine go_iconst dX11_goesOn_29 ?_
                  refine go_ist2 dX11_goesOn_30 (Nat.le_of_ble_eq_true rfl) rfl ?_
                  refine go_inc3 dX11_goesOn_31 (Nat.le_of_ble_eq_true rfl) rfl ?_
                  refine go_goto (tgt := 4) dX11_goesOn_34 (by decide) ?_
                  exact ih (r + 1) 0 _ Ls1 _ (by omega) (by omega) (ho.tr ho2) hb2 hI1 hle nxt hy
                · skip
                  exact absurd rfl b22
            · skip
              refine go_if_ne (tgt := 25) dX11_goesOn_18 (by decide) (by unfold inR; omega) (fun b18 => ?_) (fun b18 => ?_)
              · skip
                exact absurd rfl b18
              · skip
                refine go_iload_n dX11_goesOn_21 rfl ?_
                refine go_if_eq (tgt := 29) dX11_goesOn_22 (by decide) (by unfold inR; omega) (fun b22 => ?_) (fun b22 => ?_)
                · skip
                  exact absurd b22 (by decide)
                · skip
                  refine go_iconst dX11_goesOn_25 ?_
                  refine go_goto (tgt := 30) dX11_goesOn_26 (by decide) ?_
                  refine go_ist2 dX11_goesOn_30 (Nat.le_of_ble_eq_true rfl) rfl ?_
                  refine go_inc3 dX11_goesOn_31 (Nat.le_of_ble_eq_true rfl) rfl ?_
                  refine go_goto (tgt := 4) dX11_goesOn_34 (by decide) ?_
                  exact ih (r + 1) 1 _ Ls1 _ (by omega) (by omega) (ho.tr ho2) hb2 hI1 hle nxt hy
        refine go_iload_n dX11_goesOn_4 rfl ?_
        refine go_aload_n dX11_goesOn_5 rfl ?_
        refine go_geti fl_X11_109 dX11_goesOn_6 sh_0 rfl ?_
        first | (rw [t1.1]) | skip
        refine go_icmp_ge (tgt := 37) dX11_goesOn_9 (by decide) (by unfold inR; omega) (by unfold inR; omega) (fun b9 => ?_) (fun b9 => ?_)
        · skip
          omega
        · skip
          refine go_aload_n dX11_goesOn_12 rfl ?_
          refine go_iload_n dX11_goesOn_13 rfl ?_
          refine go_iload_n dX11_goesOn_14 rfl ?_
          refine go_cvI2 (M2 := mX11_goesOnBy) dX11_goesOn_15 ml_X11_263 mv_X11_goesOnBy sh_0 rfl rfl (Nat.le_of_ble_eq_true rfl) (by decide) (ev_X11_goesOnBy t1 hb1 hI1 hk hv hne hlt) (fun x σ2 hq => ?_)
          exact tail x σ2 hq
      · skip
        refine go_iload_n dX11_goesOn_4 rfl ?_
        refine go_aload_n dX11_goesOn_5 rfl ?_
        refine go_geti fl_X11_109 dX11_goesOn_6 sh_0 rfl ?_
        first | (rw [t1.1]) | skip
        refine go_icmp_ge (tgt := 37) dX11_goesOn_9 (by decide) (by unfold inR; omega) (by unfold inR; omega) (fun b9 => ?_) (fun b9 => ?_)
        · skip
          refine go_iload_n dX11_goesOn_37 rfl ?_
          subst hQ
          refine go_retZ dX11_goesOn_38 rfl hy01 ?_
          refine ⟨β1, Ls1, hb1, hI1, hle, fun s hs c hc => ?_, hy, ho⟩
          obtain ⟨r', hr', e⟩ := List.mem_iff_getElem.mp hs
          refine hd r' (by omega) c ?_
          rw [getD_in hr', e]; exact hc
        · skip
          omega
  refine am_ev (by decide) [some (.ref 0), some (.int (iZ ((k : Int)))), none, none] rfl (Nat.le_of_ble_eq_true rfl) ?_
  refine go_iconst dX11_goesOn_0 ?_
  refine go_ist2 dX11_goesOn_1 (Nat.le_of_ble_eq_true rfl) rfl ?_
  refine go_iconst dX11_goesOn_2 ?_
  refine go_ist3 dX11_goesOn_3 (Nat.le_of_ble_eq_true rfl) rfl ?_
  exact loop (R.length + 1) 0 0 β Ls σ (by omega) (by omega) fr.rf hb hI ble.rf (fun r' hr' => absurd hr' (by omega)) (Or.inl ⟨rfl, rfl⟩)
/-- the least texts are laid -/
def bhA (σ : am_St) (S : List (List Int)) (β : BT) : Prop := bhM σ S β ∧ (∃ Ls, bI S β Ls) ∧ ∀ v, VP S v → ∀ x, Be S v x → leO (β v) x
theorem bhA.fr {σ σ' : am_St} {S : List (List Int)} {β : BT} {fs as : List Nat} (h : bhA σ S β) (ho : fr fs as σ σ') (h1 : 17 ∉ as) (h2 : 18 ∉ as) : bhA σ' S β := ⟨h.1.fr ho h1 h2, h.2⟩
theorem ev_X11_layBehind {σ : am_St} {L R : List (List Int)} {m : Nat} (h : tbM σ L R m) : am_Ev SH mX11_layBehind 6 [.ref 0] σ (am_rV (fun σ2 => (∃ β, bhA σ2 (mt_sg R m) β) ∧ fr [32] [17, 18, 19] σ σ2)) := by
  have hS : okS (mt_sg R m) := okS_sg h.2.2.2.2.2.2.2.2 h.2.2.2.2.2.1 m
  have h8 := h.S8
  obtain ⟨N, hN⟩ := bR_N hS
  generalize hQ : (am_rV (fun σ2 => (∃ β, bhA σ2 (mt_sg R m) β) ∧ fr [32] [17, 18, 19] σ σ2)) = Q
  have exitL : ∀ (β : BT) (Ls : List (List Int)) (o2 o3 : Option Value) (σ1 : am_St), fr [32] [17, 18, 19] σ σ1 → bhM σ1 (mt_sg R m) β → bI (mt_sg R m) β Ls → bfix (mt_sg R m) β β → am_Go SH mX11_layBehind 6 Q 25 [some (.ref 0), some (.int (iZ 0)), o2, o3] [] σ1 := by
    intro β Ls o2 o3 σ1 ho hb hI hf
    refine go_iload_n dX11_layBehind_25 rfl ?_
    refine go_if_eq (tgt := 101) dX11_layBehind_26 (by decide) (by unfold inR; omega) (fun b26 => ?_) (fun b26 => ?_)
    · skip
      subst hQ
      refine go_retV dX11_layBehind_101 rfl ?_
      exact ⟨⟨β, hb, ⟨Ls, hI⟩, fun v hV x hx => by obtain ⟨n, hn⟩ := hx; exact bfix_fin hS hI hf n v x hV hn⟩, ho⟩
    · skip
      exact absurd rfl b26
  have whileL : ∀ (m2 : Nat) (p : Nat) (β : BT) (Ls : List (List Int)) (o2 o3 : Option Value) (σ1 : am_St), N + 1 - p < m2 → p ≤ N + 1 → bR (mt_sg R m) p β → fr [32] [17, 18, 19] σ σ1 → bhM σ1 (mt_sg R m) β → bI (mt_sg R m) β Ls → am_Go SH mX11_layBehind 6 Q 25 [some (.ref 0), some (.int (iZ 1)), o2, o3] [] σ1 := by
    intro m2
    induction m2 with
    | zero => intro p β Ls o2 o3 σ1 hm; exact absurd hm (by omega)
    | succ m2 ih =>
      intro p β Ls o2 o3 σ1 hm hp hR ho hb hI
      have pass : ∀ (m3 : Nat) (k : Nat) (y : Int) (β1 : BT) (Ls1 : List (List Int)) (o3 : Option Value) (σ3 : am_St), 40 - k < m3 → k ≤ 40 → fr [32] [17, 18, 19] σ σ3 → bhM σ3 (mt_sg R m) β1 → bI (mt_sg R m) β1 Ls1 → ble β β1 → (∀ k', k' < k → ∀ v, isL (mt_sg R m) v k' → v ≠ [] → ∀ s ∈ mt_sg R m, ∀ c, bcand β v s = some c → leO (β1 v) c) → ((y = 0 ∧ β1 = β) ∨ (y = 1 ∧ ∃ v c, VP (mt_sg R m) v ∧ Be (mt_sg R m) v c ∧ lsO c (β v) = true)) → am_Go SH mX11_layBehind 6 Q 33 [some (.ref 0), some (.int (iZ y)), some (.int (iZ (k : Int))), o3] [] σ3 := by
        intro m3
        induction m3 with
        | zero => intro k y β1 Ls1 o3 σ3 hm3; exact absurd hm3 (by omega)
        | succ m3 ih3 =>
          intro k y β1 Ls1 o3 σ3 hm3 hk ho3 hb1 hI1 hle hd hy
          have t3 := h.fr ho3 (by decide) (by decide)
          have hy01 : y = 0 ∨ y = 1 := hy.elim (fun z => Or.inl z.1) (fun z => Or.inr z.1)
          by_cases hlt : k < 40
          · have tl0 : (∀ v, isL (mt_sg R m) v k → v = []) → am_Go SH mX11_layBehind 6 Q 70 [some (.ref 0), some (.int (iZ y)), some (.int (iZ (k : Int))), some (.int (iZ 0))] [] σ3 := by
              intro hno
              have nxt : ∀ k', k' < k + 1 → ∀ v, isL (mt_sg R m) v k' → v ≠ [] → ∀ s ∈ mt_sg R m, ∀ c, bcand β v s = some c → leO (β1 v) c := by
                intro k' hk' v hv hvn
                by_cases e : k' = k
                · subst e; exact absurd (hno v hv) hvn
                · exact hd k' (by omega) v hv hvn
              rcases hy01 with rfl | rfl
              · skip
                refine go_iload_n dX11_layBehind_70 rfl ?_
                refine go_if_eq (tgt := 82) dX11_layBehind_71 (by decide) (by unfold inR; omega) (fun b71 => ?_) (fun b71 => ?_)
                · skip
                  refine go_iload_n dX11_layBehind_82 rfl ?_
                  refine go_if_eq (tgt := 90) dX11_layBehind_83 (by decide) (by unfold inR; omega) (fun b83 => ?_) (fun b83 => ?_)
                  · skip
                    refine go_iconst dX11_layBehind_90 ?_
                    refine go_ist1 dX11_layBehind_91 (Nat.le_of_ble_eq_true rfl) rfl ?_
                    refine go_inc2 dX11_layBehind_92 (Nat.le_of_ble_eq_true rfl) rfl ?_
                    refine go_goto (tgt := 33) dX11_layBehind_95 (by decide) ?_
                    exact ih3 (k + 1) 0 β1 Ls1 _ _ (by omega) (by omega) ho3 hb1 hI1 hle nxt hy
                  · skip
                    exact absurd rfl b83
                · skip
                  exact absurd rfl b71
              · skip
                refine go_iload_n dX11_layBehind_70 rfl ?_
                refine go_if_eq (tgt := 82) dX11_layBehind_71 (by decide) (by unfold inR; omega) (fun b71 => ?_) (fun b71 => ?_)
                · skip
                  refine go_iload_n dX11_layBehind_82 rfl ?_
                  refine go_if_eq (tgt := 90) dX11_layBehind_83 (by decide) (by unfold inR; omega) (fun b83 => ?_) (fun b83 => ?_)
                  · skip
                    exact absurd b83 (by decide)
                  · skip
                    refine go_iconst dX11_layBehind_86 ?_
                    refine go_goto (tgt := 91) dX11_layBehind_87 (by decide) ?_
                    refine go_ist1 dX11_layBehind_91 (Nat.le_of_ble_eq_true rfl) rfl ?_
                    refine go_inc2 dX11_layBehind_92 (Nat.le_of_ble_eq_true rfl) rfl ?_
                    refine go_goto (tgt := 33) dX11_layBehind_95 (by decide) ?_
                    exact ih3 (k + 1) 1 β1 Ls1 _ _ (by omega) (by omega) ho3 hb1 hI1 hle nxt hy
                · skip
                  exact absurd rfl b71
            by_cases hok : okp (mt_sg R m) k
            · have l4 := (t3.pk k).2
              by_cases hn : pt (mt_sg R m) k = []
              · skip
                refine go_iload_n dX11_layBehind_33 rfl ?_
                refine go_bipush dX11_layBehind_34 rfl ?_
                refine go_icmp_ge (tgt := 98) dX11_layBehind_36 (by decide) (by unfold inR; omega) (by unfold inR; omega) (fun b36 => ?_) (fun b36 => ?_)
                · skip
                  omega
                · skip
                  refine go_aload_n dX11_layBehind_39 rfl ?_
                  refine go_iload_n dX11_layBehind_40 rfl ?_
                  refine go_cvP1 (M2 := mX11_isPart) dX11_layBehind_41 ml_X11_213 mv_X11_isPart sh_0 rfl rfl (Nat.le_of_ble_eq_true rfl) (by decide) (ev_X11_isPart t3 (by omega)) ?_
                  rw [if_pos hok]
                  refine go_if_eq (tgt := 68) dX11_layBehind_44 (by decide) (by unfold inR; omega) (fun b44 => ?_) (fun b44 => ?_)
                  · skip
                    exact absurd b44 (by decide)
                  · skip
                    refine go_aload_n dX11_layBehind_47 rfl ?_
                    refine go_iload_n dX11_layBehind_48 rfl ?_
                    refine go_cvP1 (M2 := mX11_lengthOf) dX11_layBehind_49 ml_X11_207 mv_X11_lengthOf sh_0 rfl rfl (Nat.le_of_ble_eq_true rfl) (by decide) (ev_X11_lengthOf t3 hok) ?_
                    rw [hn]
                    refine go_if_le (tgt := 68) dX11_layBehind_52 (by decide) (by simp only [List.length_nil]; unfold inR; omega) (fun b52 => ?_) (fun b52 => ?_)
                    · skip
                      refine go_iconst dX11_layBehind_68 ?_
                      refine go_ist3 dX11_layBehind_69 (Nat.le_of_ble_eq_true rfl) rfl ?_
                      exact tl0 (fun v hv => by rw [← hv.2.1]; exact hn)
                    · skip
                      exact absurd (by simp) b52
              · have hpl := List.length_pos_iff.mpr hn
                by_cases hkl : isL (mt_sg R m) (pt (mt_sg R m) k) k
                · have tail : ∀ (x : Int) (σ2 : am_St), (∃ β2 Ls2, bhM σ2 (mt_sg R m) β2 ∧ bI (mt_sg R m) β2 Ls2 ∧ ble β1 β2 ∧ (∀ s ∈ mt_sg R m, ∀ c, bcand β1 (pt (mt_sg R m) k) s = some c → leO (β2 (pt (mt_sg R m) k)) c) ∧ ((x = 0 ∧ β2 = β1) ∨ (x = 1 ∧ ∃ c, Be (mt_sg R m) (pt (mt_sg R m) k) c ∧ lsO c (β1 (pt (mt_sg R m) k)) = true)) ∧ fr [32] [17, 18, 19] σ3 σ2) → am_Go SH mX11_layBehind 6 Q 79 [some (.ref 0), some (.int (iZ y)), some (.int (iZ (k : Int))), some (.int (iZ 1))] [.int (iZ x)] σ2 := by
                    rintro x σ2 ⟨β2, Ls2, g1, g2, g3, g4, g5, g6⟩
                    have nxt : ∀ k', k' < k + 1 → ∀ v, isL (mt_sg R m) v k' → v ≠ [] → ∀ s ∈ mt_sg R m, ∀ c, bcand β v s = some c → leO (β2 v) c := by
                      intro k' hk' v hv hvn s hs c hc
                      by_cases e : k' = k
                      · subst e
                        have ev := hv.2.1
                        rw [← ev] at hc ⊢
                        obtain ⟨z, hz, hzc⟩ := bcand_mono hS hI hI1 hle hc
                        obtain ⟨u, hu, huz⟩ := g4 s hs z hz
                        exact ⟨u, hu, by omega⟩
                      · exact g3.le (hd k' (by omega) v hv hvn s hs c hc)
                    rcases g5 with ⟨rfl, e2⟩ | ⟨rfl, c, hc, hl⟩
                    · rw [e2] at g1 g2 nxt
                      rcases hy01 with rfl | rfl
                      · skip
                        refine go_if_ne (tgt := 86) dX11_layBehind_79 (by decide) (by unfold inR; omega) (fun b79 => ?_) (fun b79 => ?_)
                        · skip
                          exact absurd rfl b79
                        · skip
                          refine go_iload_n dX11_layBehind_82 rfl ?_
                          refine go_if_eq (tgt := 90) dX11_layBehind_83 (by decide) (by unfold inR; omega) (fun b83 => ?_) (fun b83 => ?_)
                          · skip
                            refine go_iconst dX11_layBehind_90 ?_
                            refine go_ist1 dX11_layBehind_91 (Nat.le_of_ble_eq_true rfl) rfl ?_
                            refine go_inc2 dX11_layBehind_92 (Nat.le_of_ble_eq_true rfl) rfl ?_
                            refine go_goto (tgt := 33) dX11_layBehind_95 (by decide) ?_
                            exact ih3 (k + 1) 0 β1 Ls2 _ _ (by omega) (by omega) (ho3.tr g6) g1 g2 hle nxt hy
                          · skip
                            exact absurd rfl b83
                      · skip
                        refine go_if_ne (tgt := 86) dX11_layBehind_79 (by decide) (by unfold inR; omega) (fun b79 => ?_) (fun b79 => ?_)
                        · skip
                          exact absurd rfl b79
                        · skip
                          refine go_iload_n dX11_layBehind_82 rfl ?_
                          refine go_if_eq (tgt := 90) dX11_layBehind_83 (by decide) (by unfold inR; omega) (fun b83 => ?_) (fun b83 => ?_)
                          · skip
                            exact absurd b83 (by decide)
                          · skip
                            refine go_iconst dX11_layBehind_86 ?_
                            refine go_goto (tgt := 91) dX11_layBehind_87 (by decide) ?_
                            refine go_ist1 dX11_layBehind_91 (Nat.le_of_ble_eq_true rfl) rfl ?_
                            refine go_inc2 dX11_layBehind_92 (Nat.le_of_ble_eq_true rfl) rfl ?_
                            refine go_goto (tgt := 33) dX11_layBehind_95 (by decide) ?_
                            exact ih3 (k + 1) 1 β1 Ls2 _ _ (by omega) (by omega) (ho3.tr g6) g1 g2 hle nxt hy
                    · skip
                      refine go_if_ne (tgt := 86) dX11_layBehind_79 (by decide) (by unfold inR; omega) (fun b79 => ?_) (fun b79 => ?_)
                      · skip
                        refine go_iconst dX11_layBehind_86 ?_
                        refine go_goto (tgt := 91) dX11_layBehind_87 (by decide) ?_
                        refine go_ist1 dX11_layBehind_91 (Nat.le_of_ble_eq_true rfl) rfl ?_
                        refine go_inc2 dX11_layBehind_92 (Nat.le_of_ble_eq_true rfl) rfl ?_
                        refine go_goto (tgt := 33) dX11_layBehind_95 (by decide) ?_
                        exact ih3 (k + 1) 1 β2 Ls2 _ _ (by omega) (by omega) (ho3.tr g6) g1 g2 (hle.tr g3) nxt (Or.inr ⟨rfl, _, c, ⟨hn, k, hlt, hkl⟩, hc, lsO_mono hle hl⟩)
                      · skip
                        exact absurd b79 (by decide)
                  refine go_iload_n dX11_layBehind_33 rfl ?_
                  refine go_bipush dX11_layBehind_34 rfl ?_
                  refine go_icmp_ge (tgt := 98) dX11_layBehind_36 (by decide) (by unfold inR; omega) (by unfold inR; omega) (fun b36 => ?_) (fun b36 => ?_)
                  · skip
                    omega
                  · skip
                    refine go_aload_n dX11_layBehind_39 rfl ?_
                    refine go_iload_n dX11_layBehind_40 rfl ?_
                    refine go_cvP1 (M2 := mX11_isPart) dX11_layBehind_41 ml_X11_213 mv_X11_isPart sh_0 rfl rfl (Nat.le_of_ble_eq_true rfl) (by decide) (ev_X11_isPart t3 (by omega)) ?_
                    rw [if_pos hok]
                    refine go_if_eq (tgt := 68) dX11_layBehind_44 (by decide) (by unfold inR; omega) (fun b44 => ?_) (fun b44 => ?_)
                    · skip
                      exact absurd b44 (by decide)
                    · skip
                      refine go_aload_n dX11_layBehind_47 rfl ?_
                      refine go_iload_n dX11_layBehind_48 rfl ?_
                      refine go_cvP1 (M2 := mX11_lengthOf) dX11_layBehind_49 ml_X11_207 mv_X11_lengthOf sh_0 rfl rfl (Nat.le_of_ble_eq_true rfl) (by decide) (ev_X11_lengthOf t3 hok) ?_
                      refine go_if_le (tgt := 68) dX11_layBehind_52 (by decide) (by unfold inR; omega) (fun b52 => ?_) (fun b52 => ?_)
                      · skip
                        omega
                      · skip
                        refine go_aload_n dX11_layBehind_55 rfl ?_
                        refine go_iload_n dX11_layBehind_56 rfl ?_
                        refine go_cvI1 (M2 := mX11_leastOf) dX11_layBehind_57 ml_X11_219 mv_X11_leastOf sh_0 rfl rfl (Nat.le_of_ble_eq_true rfl) (by decide) (ev_X11_leastOf t3 hok hlt) (fun x σ4 hq => ?_)
                        obtain ⟨⟨n, rfl, hn4, hnl⟩, rfl⟩ := hq
                        have enk : n = k := hnl.uniq hkl
                        subst enk
                        refine go_iload_n dX11_layBehind_60 rfl ?_
                        refine go_icmp_ne (tgt := 68) dX11_layBehind_61 (by decide) (by unfold inR; omega) (by unfold inR; omega) (fun b61 => ?_) (fun b61 => ?_)
                        · skip
                          exact absurd rfl b61
                        · skip
                          refine go_iconst dX11_layBehind_64 ?_
                          refine go_goto (tgt := 69) dX11_layBehind_65 (by decide) ?_
                          refine go_ist3 dX11_layBehind_69 (Nat.le_of_ble_eq_true rfl) rfl ?_
                          refine go_iload_n dX11_layBehind_70 rfl ?_
                          refine go_if_eq (tgt := 82) dX11_layBehind_71 (by decide) (by unfold inR; omega) (fun b71 => ?_) (fun b71 => ?_)
                          · skip
                            exact absurd b71 (by decide)
                          · skip
                            refine go_aload_n dX11_layBehind_74 rfl ?_
                            refine go_iload_n dX11_layBehind_75 rfl ?_
                            refine go_cvI1 (M2 := mX11_goesOn) dX11_layBehind_76 ml_X11_266 mv_X11_goesOn sh_0 rfl rfl (Nat.le_of_ble_eq_true rfl) (by decide) (ev_X11_goesOn t3 hb1 hI1 hlt hkl hn) (fun x σ2 hq => ?_)
                            exact tail x σ2 hq
                · skip
                  refine go_iload_n dX11_layBehind_33 rfl ?_
                  refine go_bipush dX11_layBehind_34 rfl ?_
                  refine go_icmp_ge (tgt := 98) dX11_layBehind_36 (by decide) (by unfold inR; omega) (by unfold inR; omega) (fun b36 => ?_) (fun b36 => ?_)
                  · skip
                    omega
                  · skip
                    refine go_aload_n dX11_layBehind_39 rfl ?_
                    refine go_iload_n dX11_layBehind_40 rfl ?_
                    refine go_cvP1 (M2 := mX11_isPart) dX11_layBehind_41 ml_X11_213 mv_X11_isPart sh_0 rfl rfl (Nat.le_of_ble_eq_true rfl) (by decide) (ev_X11_isPart t3 (by omega)) ?_
                    rw [if_pos hok]
                    refine go_if_eq (tgt := 68) dX11_layBehind_44 (by decide) (by unfold inR; omega) (fun b44 => ?_) (fun b44 => ?_)
                    · skip
                      exact absurd b44 (by decide)
                    · skip
                      refine go_aload_n dX11_layBehind_47 rfl ?_
                      refine go_iload_n dX11_layBehind_48 rfl ?_
                      refine go_cvP1 (M2 := mX11_lengthOf) dX11_layBehind_49 ml_X11_207 mv_X11_lengthOf sh_0 rfl rfl (Nat.le_of_ble_eq_true rfl) (by decide) (ev_X11_lengthOf t3 hok) ?_
                      refine go_if_le (tgt := 68) dX11_layBehind_52 (by decide) (by unfold inR; omega) (fun b52 => ?_) (fun b52 => ?_)
                      · skip
                        omega
                      · skip
                        refine go_aload_n dX11_layBehind_55 rfl ?_
                        refine go_iload_n dX11_layBehind_56 rfl ?_
                        refine go_cvI1 (M2 := mX11_leastOf) dX11_layBehind_57 ml_X11_219 mv_X11_leastOf sh_0 rfl rfl (Nat.le_of_ble_eq_true rfl) (by decide) (ev_X11_leastOf t3 hok hlt) (fun x σ4 hq => ?_)
                        obtain ⟨⟨n, rfl, hn4, hnl⟩, rfl⟩ := hq
                        have enk : n ≠ k := fun z => hkl (z ▸ hnl)
                        refine go_iload_n dX11_layBehind_60 rfl ?_
                        refine go_icmp_ne (tgt := 68) dX11_layBehind_61 (by decide) (by unfold inR; omega) (by unfold inR; omega) (fun b61 => ?_) (fun b61 => ?_)
                        · skip
                          refine go_iconst dX11_layBehind_68 ?_
                          refine go_ist3 dX11_layBehind_69 (Nat.le_of_ble_eq_true rfl) rfl ?_
                          exact tl0 (fun v hv => absurd (by rw [hv.2.1]; exact hv) hkl)
                        · skip
                          omega
            · skip
              refine go_iload_n dX11_layBehind_33 rfl ?_
              refine go_bipush dX11_layBehind_34 rfl ?_
              refine go_icmp_ge (tgt := 98) dX11_layBehind_36 (by decide) (by unfold inR; omega) (by unfold inR; omega) (fun b36 => ?_) (fun b36 => ?_)
              · skip
                omega
              · skip
                refine go_aload_n dX11_layBehind_39 rfl ?_
                refine go_iload_n dX11_layBehind_40 rfl ?_
                refine go_cvP1 (M2 := mX11_isPart) dX11_layBehind_41 ml_X11_213 mv_X11_isPart sh_0 rfl rfl (Nat.le_of_ble_eq_true rfl) (by decide) (ev_X11_isPart t3 (by omega)) ?_
                rw [if_neg hok]
                refine go_if_eq (tgt := 68) dX11_layBehind_44 (by decide) (by unfold inR; omega) (fun b44 => ?_) (fun b44 => ?_)
                · skip
                  refine go_iconst dX11_layBehind_68 ?_
                  refine go_ist3 dX11_layBehind_69 (Nat.le_of_ble_eq_true rfl) rfl ?_
                  exact tl0 (fun v hv => absurd hv.1 hok)
                · skip
                  exact absurd rfl b44
          · have hfix : bfix (mt_sg R m) β β1 := fun v hV s hs c hc => by
              obtain ⟨hvn, k', hk', hl'⟩ := hV
              exact hd k' (by omega) v hl' hvn s hs c hc
            rcases hy with ⟨rfl, rfl⟩ | ⟨rfl, v, c, hV, hbe, hl⟩
            · skip
              refine go_iload_n dX11_layBehind_33 rfl ?_
              refine go_bipush dX11_layBehind_34 rfl ?_
              refine go_icmp_ge (tgt := 98) dX11_layBehind_36 (by decide) (by unfold inR; omega) (by unfold inR; omega) (fun b36 => ?_) (fun b36 => ?_)
              · skip
                refine go_goto (tgt := 25) dX11_layBehind_98 (by decide) ?_
                exact exitL _ Ls1 _ _ _ ho3 hb1 hI1 hfix
              · skip
                omega
            · have hpN : p < N + 1 := by
                rcases Nat.lt_or_ge p (N + 1) with z | z
                · exact z
                · have := bR_all hN (by omega) hR hV hbe
                  rw [this] at hl
                  exact absurd hl (by decide)
              refine go_iload_n dX11_layBehind_33 rfl ?_
              refine go_bipush dX11_layBehind_34 rfl ?_
              refine go_icmp_ge (tgt := 98) dX11_layBehind_36 (by decide) (by unfold inR; omega) (by unfold inR; omega) (fun b36 => ?_) (fun b36 => ?_)
              · skip
                refine go_goto (tgt := 25) dX11_layBehind_98 (by decide) ?_
                exact ih (p + 1) β1 Ls1 _ _ _ (by omega) (by omega) (bR_nx hS hI hR hfix) ho3 hb1 hI1
              · skip
                omega
      refine go_iload_n dX11_layBehind_25 rfl ?_
      refine go_if_eq (tgt := 101) dX11_layBehind_26 (by decide) (by unfold inR; omega) (fun b26 => ?_) (fun b26 => ?_)
      · skip
        exact absurd b26 (by decide)
      · skip
        refine go_iconst dX11_layBehind_29 ?_
        refine go_ist1 dX11_layBehind_30 (Nat.le_of_ble_eq_true rfl) rfl ?_
        refine go_iconst dX11_layBehind_31 ?_
        refine go_ist2 dX11_layBehind_32 (Nat.le_of_ble_eq_true rfl) rfl ?_
        exact pass 41 0 0 β Ls _ _ (by omega) (by omega) ho hb hI ble.rf (fun k' hk' => absurd hk' (by omega)) (Or.inl ⟨rfl, rfl⟩)
  have loop0 : ∀ (m2 : Nat) (k : Nat) (σ1 : am_St), 40 - k < m2 → k ≤ 40 → fr [32] [17, 18, 19] σ σ1 → (∀ j : Nat, j < k → σ1.2.2 17 (j : Int) = 1000) → am_Go SH mX11_layBehind 6 Q 2 [some (.ref 0), some (.int (iZ (k : Int))), none, none] [] σ1 := by
    intro m2
    induction m2 with
    | zero => intro k σ1 hm; exact absurd hm (by omega)
    | succ m2 ih =>
      intro k σ1 hm hk ho hz
      refine go_iload_n dX11_layBehind_2 rfl ?_
      refine go_bipush dX11_layBehind_3 rfl ?_
      refine go_icmp_ge (tgt := 23) dX11_layBehind_5 (by decide) (by unfold inR; omega) (by unfold inR; omega) (fun b5 => ?_) (fun b5 => ?_)
      · skip
        refine go_iconst dX11_layBehind_23 ?_
        refine go_ist1 dX11_layBehind_24 (Nat.le_of_ble_eq_true rfl) rfl ?_
        exact whileL (N + 2) 0 (fun _ => none) [] _ _ _ (by omega) (by omega) bR_0 ho (fun k' hk' w _ _ => hz k' (by omega)) bI_0
      · skip
        refine go_aload_n dX11_layBehind_8 rfl ?_
        refine go_getr fl_X11_59 dX11_layBehind_9 sh_0 rfl ?_
        refine go_iload_n dX11_layBehind_12 rfl ?_
        refine go_sipush dX11_layBehind_13 rfl ?_
        refine go_iastore dX11_layBehind_16 (by first | assumption | rfl) (by first | assumption | exact Nat.le_of_ble_eq_true rfl) (by omega) (by omega) ?_
        refine go_inc1 dX11_layBehind_17 (Nat.le_of_ble_eq_true rfl) rfl ?_
        refine go_goto (tgt := 2) dX11_layBehind_20 (by decide) ?_
        refine ih (k + 1) _ (by omega) (by omega) (ho.tr (fr_sa (by decide))) (fun j hj => ?_)
        by_cases e : j = k
        · subst e; exact am_sa_eq
        · rw [am_sa_ne (by omega)]; exact hz j (by omega)
  refine am_ev (by decide) [some (.ref 0), none, none, none] rfl (Nat.le_of_ble_eq_true rfl) ?_
  refine go_iconst dX11_layBehind_0 ?_
  refine go_ist1 dX11_layBehind_1 (Nat.le_of_ble_eq_true rfl) rfl ?_
  exact loop0 41 0 σ (by omega) (by omega) fr.rf (fun j hj => absurd hj (by omega))
