/-! ===== remainders: the mathematics, and the class's Remainders ===== -/
def rm_st (S : List (List Int)) (w : List Int) : Prop := ∃ (i j : Nat) (a b : List Int), i ≠ j ∧ S[i]? = some a ∧ S[j]? = some b ∧ a <+: b ∧ w = b.drop a.length
def rm_nx (S : List (List Int)) (v w : List Int) : Prop := ∃ s ∈ S, (v <+: s ∧ w = s.drop v.length) ∨ (s <+: v ∧ w = v.drop s.length)
/-- the remainders of a table with the signs S: the least set with these two rules -/
def Rem (S : List (List Int)) (w : List Int) : Prop := ∀ P : List Int → Prop, (∀ w, rm_st S w → P w) → (∀ v w, P v → v ≠ [] → rm_nx S v w → P w) → P w
theorem Rem.st {S : List (List Int)} {w : List Int} (h : rm_st S w) : Rem S w := fun P h1 _ => h1 w h
theorem Rem.nx {S : List (List Int)} {v w : List Int} (h : Rem S v) (hv : v ≠ []) (h2 : rm_nx S v w) : Rem S w := fun P h1 h3 => h3 v w (h P h1 h3) hv h2
def rm_U (S : List (List Int)) : List (List Int) := [] :: S.flatMap (fun s => [s.drop 1, s.drop 2, s.drop 3])
theorem rm_U_len (S : List (List Int)) : (rm_U S).length = 3 * S.length + 1 := by
  unfold rm_U
  induction S with
  | nil => rfl
  | cons s S ih => simp only [List.flatMap_cons, List.length_cons, List.length_append, List.length_nil] at ih ⊢; omega
def okS (S : List (List Int)) : Prop := okw S ∧ (∀ s ∈ S, 1 ≤ s.length) ∧ S.length ≤ 8
theorem rm_U_in {S : List (List Int)} (hS : okS S) {s : List Int} (hs : s ∈ S) {k : Nat} (hk : 1 ≤ k) : s.drop k ∈ rm_U S := by
  by_cases h4 : 4 ≤ k
  · have : s.drop k = [] := List.drop_eq_nil_of_le (by have := (hS.1 s hs).2; omega)
    rw [this]; exact List.mem_cons_self
  · refine List.mem_cons_of_mem _ (List.mem_flatMap.mpr ⟨s, hs, ?_⟩)
    rcases (show k = 1 ∨ k = 2 ∨ k = 3 by omega) with rfl | rfl | rfl <;> simp
theorem Rem_suf {S : List (List Int)} (hS : okS S) {w : List Int} (h : Rem S w) : w = [] ∨ ∃ s ∈ S, ∃ k, 1 ≤ k ∧ w = s.drop k := by
  refine h (fun w => w = [] ∨ ∃ s ∈ S, ∃ k, 1 ≤ k ∧ w = s.drop k) (fun w hw => ?_) (fun v w hv hne hw => ?_)
  · obtain ⟨i, j, a, b, -, ha, hb, -, rfl⟩ := hw
    exact Or.inr ⟨b, List.mem_of_getElem? hb, a.length, hS.2.1 a (List.mem_of_getElem? ha), rfl⟩
  · obtain ⟨s, hs, ⟨-, rfl⟩ | ⟨-, rfl⟩⟩ := hw
    · exact Or.inr ⟨s, hs, v.length, List.length_pos_iff.mpr hne, rfl⟩
    · rcases hv with rfl | ⟨s', hs', k, hk, rfl⟩
      · exact absurd rfl hne
      · exact Or.inr ⟨s', hs', k + s.length, by omega, by rw [List.drop_drop]⟩
theorem Rem_U {S : List (List Int)} (hS : okS S) {w : List Int} (h : Rem S w) : w ∈ rm_U S := by
  rcases Rem_suf hS h with rfl | ⟨s, hs, k, hk, rfl⟩
  · exact List.mem_cons_self
  · exact rm_U_in hS hs hk
theorem Rem_ok {S : List (List Int)} (hS : okS S) {w : List Int} (h : Rem S w) : okl w ∧ w.length ≤ 3 := by
  rcases Rem_suf hS h with rfl | ⟨s, hs, k, hk, rfl⟩
  · exact ⟨fun c hc => by simp at hc, by simp⟩
  · refine ⟨(hS.1 s hs).1.drop k, ?_⟩
    have := (hS.1 s hs).2
    rw [List.length_drop]
    omega
theorem nodup_len {α : Type} [DecidableEq α] : ∀ (xs U : List α), xs.Nodup → (∀ x ∈ xs, x ∈ U) → xs.length ≤ U.length
  | [], U, _, _ => Nat.zero_le _
  | x :: xs, U, h1, h2 => by
    obtain ⟨h3, h4⟩ := List.nodup_cons.mp h1
    have hx := h2 x List.mem_cons_self
    have := nodup_len xs (U.erase x) h4 (fun y hy => (List.mem_erase_of_ne (fun e : y = x => h3 (e ▸ hy))).mpr (h2 y (List.mem_cons_of_mem _ hy)))
    rw [List.length_erase_of_mem hx] at this
    have := List.length_pos_of_mem hx
    simp only [List.length_cons]
    omega
theorem Rem_len {S : List (List Int)} (hS : okS S) {ws : List (List Int)} (h1 : ws.Nodup) (h2 : ∀ w ∈ ws, Rem S w) : ws.length ≤ 25 := by
  have := nodup_len ws (rm_U S) h1 (fun w hw => Rem_U hS (h2 w hw))
  rw [rm_U_len] at this
  have := hS.2.2
  omega
/-- a Remainders (the cell k, its line k + 1) holds ws -/
def rmd (σ : am_St) (k : Nat) (ws : List (List Int)) : Prop := hold σ (k + 1) 25 (ws.map enc) ∧ σ.1 k 1 = (if [] ∈ ws then 1 else 0) ∧ ∀ w ∈ ws, okl w ∧ w.length ≤ 4
theorem rmd.off {σ σ' : am_St} {k : Nat} {ws : List (List Int)} {ks : List Nat} (h : rmd σ k ws) (ho : am_off ks σ σ') (h1 : k ∉ ks) (h2 : k + 1 ∉ ks) (h3 : k + 2 ∉ ks) : rmd σ' k ws := ⟨h.1.off ho h2 h3, ((ho k h1).1 1).trans h.2.1, h.2.2⟩
def rm_add (ws : List (List Int)) (w : List Int) : List (List Int) := if w ∈ ws then ws else ws ++ [w]
theorem rm_add_mem (ws : List (List Int)) (w : List Int) : w ∈ rm_add ws w := by
  unfold rm_add; split
  · assumption
  · simp
theorem rm_add_pre (ws : List (List Int)) (w : List Int) : ws <+: rm_add ws w := by
  unfold rm_add; split
  · exact List.prefix_refl _
  · exact List.prefix_append _ _
theorem enc_memW {ws : List (List Int)} {w : List Int} (h : ∀ x ∈ ws, okl x ∧ x.length ≤ 4) (hw : okl w) : enc w ∈ ws.map enc ↔ w ∈ ws := by
  rw [List.mem_map]
  constructor
  · rintro ⟨x, hx, e⟩
    have : encN x = encN w := by unfold enc at e; omega
    rw [← (encN_inj (h x hx).1 hw).mp this]
    exact hx
  · intro hx; exact ⟨w, hx, rfl⟩
theorem rm_add_iff (ws : List (List Int)) (w x : List Int) : x ∈ rm_add ws w ↔ x ∈ ws ∨ x = w := by
  unfold rm_add
  by_cases h : w ∈ ws
  · rw [if_pos h]
    exact ⟨Or.inl, fun q => q.elim id (fun e => e ▸ h)⟩
  · rw [if_neg h, List.mem_append, List.mem_singleton]
theorem rm_add_nd {ws : List (List Int)} (h : ws.Nodup) (w : List Int) : (rm_add ws w).Nodup := by
  unfold rm_add
  by_cases hw : w ∈ ws
  · rw [if_pos hw]; exact h
  · rw [if_neg hw, List.nodup_append]
    refine ⟨h, by simp, fun a ha b hb => ?_⟩
    rw [List.mem_singleton] at hb
    subst hb
    exact fun e => hw (e ▸ ha)
theorem ev_X5_note {σ : am_St} {k : Nat} {ws : List (List Int)} {w : List Int} (hk : SH[k]? = some (.inr (4, [k + 4, 0]))) (h : rmd σ k ws) (hw : okl w) (h4 : w.length ≤ 4) (hcap : w ∈ ws ∨ ws.length < 25) : am_Ev SH mX5_note 1 [.ref k, .int (iZ (enc w))] σ (am_rV (fun σ2 => rmd σ2 k (rm_add ws w) ∧ am_off [k, k + 1, k + 2] σ σ2)) := by
  obtain ⟨h1, h2, h3⟩ := h
  have ew := enc_inR hw h4
  have em := enc_memW h3 hw
  have en := enc_nil_iff hw
  have hok : ∀ x ∈ rm_add ws w, okl x ∧ x.length ≤ 4 := by
    intro x hx
    rcases (rm_add_iff ws w x).mp hx with hx | hx
    · exact h3 x hx
    · rw [hx]; exact ⟨hw, h4⟩
  have tail : ∀ σ1 : am_St, hold σ1 (k + 1) 25 ((rm_add ws w).map enc) → σ1.1 k 1 = (if [] ∈ ws then 1 else 0) → am_off [k, k + 1, k + 2] σ σ1 → am_Go SH mX5_note 1 (am_rV (fun σ2 => rmd σ2 k (rm_add ws w) ∧ am_off [k, k + 1, k + 2] σ σ2)) 20 [some (.ref k), some (.int (iZ (enc w)))] [] σ1 := by
    intro σ1 g1 g2 go
    have hni := rm_add_iff ws w []
    refine go_iload_n dX5_note_20 rfl ?_
    refine go_iconst dX5_note_21 ?_
    refine go_icmp_ne (tgt := 30) dX5_note_22 (by decide) ew (by unfold inR; omega) (fun b22 => ?_) (fun b22 => ?_)
    · skip
      have hfl : σ1.1 k 1 = (if [] ∈ rm_add ws w then 1 else 0) := by
        rw [g2]
        by_cases q : ([] : List Int) ∈ ws
        · rw [if_pos q, if_pos (hni.mpr (Or.inl q))]
        · rw [if_neg q, if_neg (fun z => by rcases hni.mp z with z | z; exact q z; exact b22 (en.mpr z.symm))]
      refine go_retV dX5_note_30 rfl ?_
      first | exact ⟨⟨g1, hfl, hok⟩, go⟩ | exact ⟨⟨hold_si g1 (by omega) (by omega), by rw [if_pos hin]; simp [am_si], hok⟩, go.tr (am_off_si (by simp))⟩
    · skip
      have hin : ([] : List Int) ∈ rm_add ws w := hni.mpr (Or.inr (en.mp b22).symm)
      refine go_aload_n dX5_note_25 rfl ?_
      refine go_iconst dX5_note_26 ?_
      refine go_puti fl_X5_20 dX5_note_27 hk rfl (am_fit_bool (by omega)) ?_
      refine go_retV dX5_note_30 rfl ?_
      first | exact ⟨⟨g1, hfl, hok⟩, go⟩ | exact ⟨⟨hold_si g1 (by omega) (by omega), by rw [if_pos hin]; simp [am_si], hok⟩, go.tr (am_off_si (by simp))⟩
  refine am_ev (by decide) [some (.ref k), some (.int (iZ (enc w)))] rfl (Nat.le_of_ble_eq_true rfl) ?_
  refine go_aload_n dX5_note_0 rfl ?_
  refine go_getr fl_X5_14 dX5_note_1 hk rfl ?_
  refine go_iload_n dX5_note_4 rfl ?_
  refine go_cvI1 (M2 := mX1_placeOf) dX5_note_5 ml_X5_59 mv_X1_placeOf h1.1 rfl rfl (Nat.le_of_ble_eq_true rfl) (by decide) (ev_X1_placeOf h1 ew) (fun pl σp hpl => ?_)
  obtain ⟨hpl, rfl⟩ := hpl
  refine go_iconst dX5_note_8 ?_
  refine go_icmp_ne (tgt := 20) dX5_note_9 (by decide) (by rcases hpl with q | ⟨j, q, q2, q3⟩ <;> unfold inR; omega; have := (List.getElem?_eq_some_iff.mp q2).1; have := h1.2.2.2.2.1; omega) (by unfold inR; omega) (fun b9 => ?_) (fun b9 => ?_)
  · skip
    have hin : w ∈ ws := em.mp (by rcases hpl with q | ⟨j, q, q2, q3⟩; exact absurd q.1 b9; exact List.mem_of_getElem? q2)
    have ea : rm_add ws w = ws := by unfold rm_add; rw [if_pos hin]
    have hcur := tail _ (by rw [ea]; exact h1) h2 am_off.rf
    exact hcur
  · skip
    have hnin : w ∉ ws := fun q => by rcases hpl with z | ⟨j, z, -⟩; exact z.2 (em.mpr q); omega
    have ea : rm_add ws w = ws ++ [w] := by unfold rm_add; rw [if_neg hnin]
    refine go_aload_n dX5_note_12 rfl ?_
    refine go_getr fl_X5_14 dX5_note_13 hk rfl ?_
    refine go_iload_n dX5_note_16 rfl ?_
    refine go_cvV1 (M2 := mX1_add) dX5_note_17 ml_X5_62 mv_X1_add h1.1 rfl rfl (Nat.le_of_ble_eq_true rfl) (by decide) (ev_X1_add h1 ew (by rcases hcap with q | q; exact absurd q hnin; simp; omega)) (fun σ1 hq => ?_)
    have hcur := tail σ1 (by rw [ea, List.map_append]; exact hq.1) (by rw [(hq.2 k (by simp; omega)).1]; exact h2) (hq.2.wk (by simp))
    exact hcur
theorem ev_X5_areClean {σ : am_St} {k : Nat} {ws : List (List Int)} (hk : SH[k]? = some (.inr (4, [k + 4, 0]))) (h : rmd σ k ws) : am_Ev SH mX5_areClean 0 [.ref k] σ (am_rI (fun x σ2 => x = (if [] ∈ ws then 0 else 1) ∧ σ2 = σ)) := by
  refine am_ev (by decide) [some (.ref k)] rfl (Nat.le_of_ble_eq_true rfl) ?_
  refine go_aload_n dX5_areClean_0 rfl ?_
  refine go_geti fl_X5_20 dX5_areClean_1 hk rfl ?_
  rw [h.2.1]
  refine go_if_ne (tgt := 11) dX5_areClean_4 (by decide) (by unfold inR; split <;> omega) (fun b4 => ?_) (fun b4 => ?_)
  · skip
    refine go_iconst dX5_areClean_11 ?_
    refine go_retZ dX5_areClean_12 rfl (by omega) ?_
    refine ⟨?_, rfl⟩
    by_cases q : ([] : List Int) ∈ ws
    · rw [if_pos q] at b4 ⊢ <;> omega
    · rw [if_neg q] at b4 ⊢ <;> omega
  · skip
    refine go_iconst dX5_areClean_7 ?_
    refine go_goto (tgt := 12) dX5_areClean_8 (by decide) ?_
    refine go_retZ dX5_areClean_12 rfl (by omega) ?_
    refine ⟨?_, rfl⟩
    by_cases q : ([] : List Int) ∈ ws
    · rw [if_pos q] at b4 ⊢ <;> omega
    · rw [if_neg q] at b4 ⊢ <;> omega
/-- a list of remainders, each once -/
def rmL (S : List (List Int)) (ws : List (List Int)) : Prop := ws.Nodup ∧ ∀ w ∈ ws, Rem S w
theorem rmL.add {S ws : List (List Int)} (h : rmL S ws) {w : List Int} (hw : Rem S w) : rmL S (rm_add ws w) := ⟨rm_add_nd h.1 w, fun x hx => by
  rcases (rm_add_iff ws w x).mp hx with q | q
  · exact h.2 x q
  · rw [q]; exact hw⟩
theorem rmL.cap {S ws : List (List Int)} (hS : okS S) (h : rmL S ws) {w : List Int} (hw : Rem S w) : w ∈ ws ∨ ws.length < 25 := by
  by_cases q : w ∈ ws
  · exact Or.inl q
  · refine Or.inr ?_
    have := Rem_len hS (h.add hw).1 (h.add hw).2
    unfold rm_add at this
    rw [if_neg q, List.length_append] at this
    simp at this
    omega
theorem get_ok {S : List (List Int)} (hS : okS S) {i : Nat} (hi : i < S.length) : S.getD i [] = S[i] ∧ S[i] ∈ S ∧ okl S[i] ∧ S[i].length ≤ 4 ∧ 1 ≤ S[i].length := by
  refine ⟨by rw [List.getD_eq_getElem?_getD, List.getElem?_eq_getElem hi]; rfl, List.getElem_mem hi, (hS.1 _ (List.getElem_mem hi)).1, (hS.1 _ (List.getElem_mem hi)).2, hS.2.1 _ (List.getElem_mem hi)⟩
theorem ev_X5_follow {σ : am_St} {k ks n : Nat} {ws S : List (List Int)} {v : List Int} (hk : SH[k]? = some (.inr (4, [k + 4, 0]))) (h : rmd σ k ws) (g : hold σ ks n (S.map enc)) (hS : okS S) (hws : rmL S ws) (hv : Rem S v) (d : ks ≠ k ∧ ks ≠ k + 1 ∧ ks ≠ k + 2 ∧ ks + 1 ≠ k ∧ ks + 1 ≠ k + 2) : am_Ev SH mX5_follow 2 [.ref k, .int (iZ (enc v)), .ref ks] σ (am_rV (fun σ2 => ∃ ws2, rmd σ2 k ws2 ∧ rmL S ws2 ∧ ws <+: ws2 ∧ (v ≠ [] → ∀ w, rm_nx S v w → w ∈ ws2) ∧ am_off [k, k + 1, k + 2] σ σ2)) := by
  have hks := g.1
  have hvo := Rem_ok hS hv
  have ev := enc_inR hvo.1 (by omega)
  have en := enc_nil_iff hvo.1
  have h8 := hS.2.2
  have loop : ∀ (m : Nat) (i : Nat) (ws1 : List (List Int)) (σ1 : am_St) (w4 : Option Value), v ≠ [] → S.length - i < m → i ≤ S.length → rmd σ1 k ws1 → rmL S ws1 → ws <+: ws1 → am_off [k, k + 1, k + 2] σ σ1 → (∀ j (hj : j < S.length), j < i → (v <+: S[j] → S[j].drop v.length ∈ ws1) ∧ (S[j] <+: v → v.drop S[j].length ∈ ws1)) → am_Go SH mX5_follow 2 (am_rV (fun σ2 => ∃ ws2, rmd σ2 k ws2 ∧ rmL S ws2 ∧ ws <+: ws2 ∧ (v ≠ [] → ∀ w, rm_nx S v w → w ∈ ws2) ∧ am_off [k, k + 1, k + 2] σ σ2)) 8 [some (.ref k), some (.int (iZ (enc v))), some (.ref ks), some (.int (iZ i)), w4] [] σ1 := by
    intro m
    induction m with
    | zero => intro i ws1 σ1 w4 hne hm; exact absurd hm (by omega)
    | succ m ih =>
      intro i ws1 σ1 w4 hne hm hi hr hl hpre ho hin
      have g' := g.off ho (by simp; omega) (by simp; omega)
      by_cases hlt : i < S.length
      · obtain ⟨q0, q1, q2, q3, q4⟩ := get_ok hS hlt
        have step : ∀ (ws2 : List (List Int)) (σ2 : am_St), rmd σ2 k ws2 → rmL S ws2 → ws1 <+: ws2 → am_off [k, k + 1, k + 2] σ1 σ2 → ((v <+: S[i] → S[i].drop v.length ∈ ws2) ∧ (S[i] <+: v → v.drop S[i].length ∈ ws2)) → am_Go SH mX5_follow 2 (am_rV (fun σ2 => ∃ ws2, rmd σ2 k ws2 ∧ rmL S ws2 ∧ ws <+: ws2 ∧ (v ≠ [] → ∀ w, rm_nx S v w → w ∈ ws2) ∧ am_off [k, k + 1, k + 2] σ σ2)) 64 [some (.ref k), some (.int (iZ (enc v))), some (.ref ks), some (.int (iZ i)), some (.int (iZ (enc S[i])))] [] σ2 := by
          intro ws2 σ2 a1 a2 a3 a4 a5
          refine go_inc3 dX5_follow_64 (Nat.le_of_ble_eq_true rfl) rfl ?_
          refine go_goto (tgt := 8) dX5_follow_67 (by decide) ?_
          rw [show (i : Int) + 1 = ((i + 1 : Nat) : Int) by omega]
          refine ih (i + 1) ws2 σ2 _ hne (by omega) (by omega) a1 a2 (hpre.trans a3) (ho.tr a4) (fun j hj hji => ?_)
          by_cases hje : j = i
          · subst hje; exact a5
          · have := hin j hj (by omega); exact ⟨fun z => a3.subset (this.1 z), fun z => a3.subset (this.2 z)⟩
        have b1 := wd_be_enc q2 hvo.1 q3 (by omega)
        have b2 := wd_be_enc hvo.1 q2 (by omega) q3
        refine go_iload_n dX5_follow_8 rfl ?_
        refine go_aload_n dX5_follow_9 rfl ?_
        refine go_cvP0 (M2 := mX1_size) dX5_follow_10 ml_X5_28 mv_X1_size hks rfl rfl (Nat.le_of_ble_eq_true rfl) (by decide) (ev_X1_size g') ?_
        rw [List.length_map]
        refine go_icmp_ge (tgt := 70) dX5_follow_13 (by decide) (by unfold inR; omega) (by unfold inR; omega) (fun b13 => ?_) (fun b13 => ?_)
        · skip
          exact absurd b13 (by omega)
        · skip
          refine go_aload_n dX5_follow_16 rfl ?_
          refine go_iload_n dX5_follow_17 rfl ?_
          refine go_cvP1 (M2 := mX1_at) dX5_follow_18 ml_X5_32 mv_X1_at hks rfl rfl (Nat.le_of_ble_eq_true rfl) (by decide) (ev_X1_at g' (by unfold inR; omega)) ?_
          rw [ln_at_map (by omega) (by omega), Int.toNat_natCast, q0]
          refine go_ist4 dX5_follow_21 (Nat.le_of_ble_eq_true rfl) rfl ?_
          refine go_iload dX5_follow_23 rfl ?_
          refine go_iload_n dX5_follow_25 rfl ?_
          refine go_csP2 (M2 := mX9_begins) dX5_follow_26 ml_X5_46 ms_X9_begins (Nat.le_of_ble_eq_true rfl) (by decide) (ev_X9_begins (enc_inR q2 q3) ev) ?_
          rw [b1]
          refine go_if_eq (tgt := 45) dX5_follow_29 (by decide) (by unfold inR; split <;> omega) (fun b29 => ?_) (fun b29 => ?_)
          · skip
            have np : ¬ v <+: S[i] := fun z => by rw [if_pos z] at b29; omega
            refine go_iload_n dX5_follow_45 rfl ?_
            refine go_iload dX5_follow_46 rfl ?_
            refine go_csP2 (M2 := mX9_begins) dX5_follow_48 ml_X5_46 ms_X9_begins (Nat.le_of_ble_eq_true rfl) (by decide) (ev_X9_begins ev (enc_inR q2 q3)) ?_
            rw [b2]
            refine go_if_eq (tgt := 64) dX5_follow_51 (by decide) (by unfold inR; split <;> omega) (fun b51 => ?_) (fun b51 => ?_)
            · skip
              have np2 : ¬ S[i] <+: v := fun z => by rw [if_pos z] at b51; omega
              first
                | exact step _ _ hq.1 (hl.add hR) (rm_add_pre _ _) hq.2 ⟨fun _ => rm_add_mem _ _, fun z => by
                    have e1 : v = S[i] := hp.eq_of_length (Nat.le_antisymm hp.length_le z.length_le)
                    have e2 : v.drop S[i].length = S[i].drop v.length := by rw [← e1]
                    rw [e2]; exact rm_add_mem _ _⟩
                | exact step _ _ hq.1 (hl.add hR) (rm_add_pre _ _) hq.2 ⟨fun z => absurd z np, fun _ => rm_add_mem _ _⟩
                | exact step _ _ hr hl (List.prefix_refl _) am_off.rf ⟨fun z => absurd z np, fun z => absurd z np2⟩
            · skip
              have hp2 : S[i] <+: v := by
                apply Classical.byContradiction
                intro z
                rw [if_neg z] at b51
                omega
              have hR : Rem S (v.drop S[i].length) := hv.nx hne ⟨S[i], q1, Or.inr ⟨hp2, rfl⟩⟩
              refine go_aload_n dX5_follow_54 rfl ?_
              refine go_iload_n dX5_follow_55 rfl ?_
              refine go_iload dX5_follow_56 rfl ?_
              refine go_csP2 (M2 := mX9_behind) dX5_follow_58 ml_X5_52 ms_X9_behind (Nat.le_of_ble_eq_true rfl) (by decide) (ev_X9_behind ev (enc_inR q2 q3)) ?_
              rw [wd_hi_enc hvo.1 q2 (by omega) q3 hp2]
              refine go_cvV1 (M2 := mX5_note) dX5_follow_61 ml_X5_56 mv_X5_note hk rfl rfl (Nat.le_of_ble_eq_true rfl) (by decide) (ev_X5_note hk hr (hvo.1.drop _) (by rw [List.length_drop]; omega) (hl.cap hS hR)) (fun σ2 hq => ?_)
              first
                | exact step _ _ hq.1 (hl.add hR) (rm_add_pre _ _) hq.2 ⟨fun _ => rm_add_mem _ _, fun z => by
                    have e1 : v = S[i] := hp.eq_of_length (Nat.le_antisymm hp.length_le z.length_le)
                    have e2 : v.drop S[i].length = S[i].drop v.length := by rw [← e1]
                    rw [e2]; exact rm_add_mem _ _⟩
                | exact step _ _ hq.1 (hl.add hR) (rm_add_pre _ _) hq.2 ⟨fun z => absurd z np, fun _ => rm_add_mem _ _⟩
                | exact step _ _ hr hl (List.prefix_refl _) am_off.rf ⟨fun z => absurd z np, fun z => absurd z np2⟩
          · skip
            have hp : v <+: S[i] := by
              apply Classical.byContradiction
              intro z
              rw [if_neg z] at b29
              omega
            have hR : Rem S (S[i].drop v.length) := hv.nx hne ⟨S[i], q1, Or.inl ⟨hp, rfl⟩⟩
            refine go_aload_n dX5_follow_32 rfl ?_
            refine go_iload dX5_follow_33 rfl ?_
            refine go_iload_n dX5_follow_35 rfl ?_
            refine go_csP2 (M2 := mX9_behind) dX5_follow_36 ml_X5_52 ms_X9_behind (Nat.le_of_ble_eq_true rfl) (by decide) (ev_X9_behind (enc_inR q2 q3) ev) ?_
            rw [wd_hi_enc q2 hvo.1 q3 (by omega) hp]
            refine go_cvV1 (M2 := mX5_note) dX5_follow_39 ml_X5_56 mv_X5_note hk rfl rfl (Nat.le_of_ble_eq_true rfl) (by decide) (ev_X5_note hk hr (q2.drop _) (by rw [List.length_drop]; omega) (hl.cap hS hR)) (fun σ2 hq => ?_)
            refine go_goto (tgt := 64) dX5_follow_42 (by decide) ?_
            first
              | exact step _ _ hq.1 (hl.add hR) (rm_add_pre _ _) hq.2 ⟨fun _ => rm_add_mem _ _, fun z => by
                  have e1 : v = S[i] := hp.eq_of_length (Nat.le_antisymm hp.length_le z.length_le)
                  have e2 : v.drop S[i].length = S[i].drop v.length := by rw [← e1]
                  rw [e2]; exact rm_add_mem _ _⟩
              | exact step _ _ hq.1 (hl.add hR) (rm_add_pre _ _) hq.2 ⟨fun z => absurd z np, fun _ => rm_add_mem _ _⟩
              | exact step _ _ hr hl (List.prefix_refl _) am_off.rf ⟨fun z => absurd z np, fun z => absurd z np2⟩
      · skip
        refine go_iload_n dX5_follow_8 rfl ?_
        refine go_aload_n dX5_follow_9 rfl ?_
        refine go_cvP0 (M2 := mX1_size) dX5_follow_10 ml_X5_28 mv_X1_size hks rfl rfl (Nat.le_of_ble_eq_true rfl) (by decide) (ev_X1_size g') ?_
        rw [List.length_map]
        refine go_icmp_ge (tgt := 70) dX5_follow_13 (by decide) (by unfold inR; omega) (by unfold inR; omega) (fun b13 => ?_) (fun b13 => ?_)
        · skip
          refine go_retV dX5_follow_70 rfl ?_
          refine ⟨ws1, hr, hl, hpre, fun _ w hw => ?_, ho⟩
          obtain ⟨s, hs, hw⟩ := hw
          obtain ⟨j, hj, rfl⟩ := List.getElem_of_mem hs
          rcases hw with ⟨z1, rfl⟩ | ⟨z1, rfl⟩
          · exact (hin j hj (by omega)).1 z1
          · exact (hin j hj (by omega)).2 z1
        · skip
          exact absurd b13 (by omega)
  refine am_ev (by decide) [some (.ref k), some (.int (iZ (enc v))), some (.ref ks), none, none] rfl (Nat.le_of_ble_eq_true rfl) ?_
  refine go_iload_n dX5_follow_0 rfl ?_
  refine go_iconst dX5_follow_1 ?_
  refine go_icmp_ne (tgt := 6) dX5_follow_2 (by decide) ev (by unfold inR; omega) (fun b2 => ?_) (fun b2 => ?_)
  · skip
    refine go_iconst dX5_follow_6 ?_
    refine go_ist3 dX5_follow_7 (Nat.le_of_ble_eq_true rfl) rfl ?_
    exact loop (S.length + 1) 0 ws σ none (fun z => b2 (en.mpr z)) (by omega) (by omega) h hws (List.prefix_refl _) am_off.rf (fun j hj hj0 => absurd hj0 (by omega))
  · skip
    refine go_retV dX5_follow_5 rfl ?_
    exact ⟨ws, h, hws, List.prefix_refl _, fun z => absurd (en.mp b2) z, am_off.rf⟩
