/-! ===== what comes behind a part at least (mathematics of the reference's search) ===== -/
/-- x comes behind v, in n steps -/
def Bn (S : List (List Int)) : Nat → List Int → List Int → Prop
  | 0, _, _ => False
  | n + 1, v, x => v ≠ [] ∧ ∃ s ∈ S, (s <+: v ∧ ((v.drop s.length = [] ∧ x = []) ∨ (v.drop s.length ≠ [] ∧ Bn S n (v.drop s.length) x))) ∨ (¬ s <+: v ∧ v <+: s ∧ ∃ y, Bn S n (s.drop v.length) y ∧ x = s.drop v.length ++ y)
def Be (S : List (List Int)) (v x : List Int) : Prop := ∃ n, Bn S n v x
theorem Be.ne {S : List (List Int)} {v x : List Int} (h : Be S v x) : v ≠ [] := by
  obtain ⟨n, h⟩ := h
  cases n with
  | zero => exact h.elim
  | succ n => exact h.1
theorem Be.e0 {S : List (List Int)} {v s : List Int} (hv : v ≠ []) (hs : s ∈ S) (hp : s <+: v) (hd : v.drop s.length = []) : Be S v [] := ⟨1, hv, s, hs, Or.inl ⟨hp, Or.inl ⟨hd, rfl⟩⟩⟩
theorem Be.e1 {S : List (List Int)} {v s x : List Int} (hv : v ≠ []) (hs : s ∈ S) (hp : s <+: v) (h : Be S (v.drop s.length) x) : Be S v x := by
  have hd := h.ne
  obtain ⟨n, h⟩ := h
  exact ⟨n + 1, hv, s, hs, Or.inl ⟨hp, Or.inr ⟨hd, h⟩⟩⟩
theorem Be.e2 {S : List (List Int)} {v s y : List Int} (hv : v ≠ []) (hs : s ∈ S) (hn : ¬ s <+: v) (hp : v <+: s) (h : Be S (s.drop v.length) y) : Be S v (s.drop v.length ++ y) := by
  obtain ⟨n, h⟩ := h
  exact ⟨n + 1, hv, s, hs, Or.inr ⟨hn, hp, y, h, rfl⟩⟩
theorem Bn.ok {S : List (List Int)} (hS : okS S) : ∀ (n : Nat) (v x : List Int), Bn S n v x → okl x
  | 0, _, _, h => h.elim
  | n + 1, v, x, h => by
    obtain ⟨_, s, hs, ⟨_, ⟨_, rfl⟩ | ⟨_, h⟩⟩ | ⟨_, _, y, h, rfl⟩⟩ := h
    · exact fun c hc => nomatch hc
    · exact Bn.ok hS n _ _ h
    · exact okl_app.mpr ⟨((hS.1 s hs).1).drop _, Bn.ok hS n _ _ h⟩
theorem Be.ok {S : List (List Int)} (hS : okS S) {v x : List Int} (h : Be S v x) : okl x := by
  obtain ⟨n, h⟩ := h
  exact Bn.ok hS n v x h
theorem Be.pa {S : List (List Int)} : ∀ (n : Nat) (v x : List Int), Bn S n v x → ∀ t, Pa S t v → Pa S (t ++ x) []
  | 0, _, _, h => h.elim
  | n + 1, v, x, h => by
    intro t ht
    obtain ⟨hv, s, hs, ⟨hp, ⟨hd, rfl⟩ | ⟨hd, h⟩⟩ | ⟨hn, hp, y, h, rfl⟩⟩ := h
    · have := ht.s3 hv hs hp
      rw [hd] at this
      rw [List.append_nil]
      exact this
    · exact Be.pa n _ _ h t (ht.s3 hv hs hp)
    · have := Be.pa n _ _ h _ (ht.s2 hv hs hp)
      rw [List.append_assoc] at this
      exact this
/-- a text of two rules, one a beginning of the other, and of what comes behind -/
def Cd (S : List (List Int)) (T : List Int) : Prop := ∃ (i j : Nat) (a b : List Int), i ≠ j ∧ S[i]? = some a ∧ S[j]? = some b ∧ a <+: b ∧ ((b.drop a.length = [] ∧ T = b) ∨ ∃ x, Be S (b.drop a.length) x ∧ T = b ++ x)
theorem Cd.pa {S : List (List Int)} {T : List Int} (h : Cd S T) : Pa S T [] := by
  obtain ⟨i, j, a, b, hij, ha, hb, hp, ⟨hd, rfl⟩ | ⟨x, ⟨n, hx⟩, rfl⟩⟩ := h
  · have := Pa.st hij ha hb hp
    rw [hd] at this
    exact this
  · exact Be.pa n _ _ hx _ (Pa.st hij ha hb hp)
theorem pre_full {v s : List Int} (h : v <+: s) (hd : s.drop v.length = []) : s = v := by
  have h1 := List.drop_eq_nil_iff.mp hd
  exact (h.eq_of_length (Nat.le_antisymm h.length_le h1)).symm
theorem Pa.cd {S : List (List Int)} {T : List Int} (h : Pa S T []) : Cd S T := by
  have key : ∀ t v, Pa S t v → ∀ y, ((v = [] ∧ y = []) ∨ Be S v y) → Cd S (t ++ y) := by
    intro t v h
    refine h (fun t v => ∀ y, ((v = [] ∧ y = []) ∨ Be S v y) → Cd S (t ++ y)) ?_ ?_ ?_
    · intro i j a b hij ha hb hp y hy
      refine ⟨i, j, a, b, hij, ha, hb, hp, ?_⟩
      rcases hy with ⟨h1, rfl⟩ | h1
      · exact Or.inl ⟨h1, List.append_nil _⟩
      · exact Or.inr ⟨y, h1, rfl⟩
    · intro t v s ih hv hs hp y hy
      rw [List.append_assoc]
      refine ih _ (Or.inr ?_)
      rcases hy with ⟨h1, rfl⟩ | h1
      · have e := pre_full hp h1
        rw [h1, List.append_nil]
        exact Be.e0 hv hs (by rw [e]; exact List.prefix_rfl) (by rw [e]; exact List.drop_length)
      · refine Be.e2 hv hs (fun z => ?_) hp h1
        have hl := hp.length_le
        have hl2 := z.length_le
        exact h1.ne (List.drop_eq_nil_iff.mpr (by omega))
    · intro t v s ih hv hs hp y hy
      refine ih _ (Or.inr ?_)
      rcases hy with ⟨h1, rfl⟩ | h1
      · exact Be.e0 hv hs hp h1
      · exact Be.e1 hv hs hp h1
  have := key T [] h [] (Or.inl ⟨rfl, rfl⟩)
  rw [List.append_nil] at this
  exact this
theorem encN_lenle {a b : List Int} (ha : okl a) (hb : okl b) (h : encN a ≤ encN b) : a.length ≤ b.length := by
  rcases Nat.lt_or_ge b.length a.length with z | z
  · have := encN_len hb ha z; omega
  · exact z
theorem fold_pos : ∀ (l : List Int) (n : Nat), 1 ≤ n → 1 ≤ l.foldl (fun a c => a * 128 + c.toNat) n
  | [], _, h => h
  | c :: l, n, h => fold_pos l (n * 128 + c.toNat) (by omega)
theorem encN_pos (w : List Int) : 1 ≤ encN w := fold_pos w 1 (Nat.le_refl _)
theorem encN_prele {w a b : List Int} (ha : okl a) (hb : okl b) : encN (w ++ a) ≤ encN (w ++ b) ↔ encN a ≤ encN b := by
  rw [encN_cat w ha, encN_cat w hb]
  have a1 := encN_bd ha
  have b1 := encN_bd hb
  rcases Nat.lt_trichotomy a.length b.length with z | z | z
  · have h1 := encN_len ha hb z
    have h2 : 128 ^ a.length * 128 ≤ 128 ^ b.length := by rw [← Nat.pow_succ]; exact Nat.pow_le_pow_right (by decide) z
    have h3 : encN w * 128 ^ a.length ≤ encN w * 128 ^ b.length := Nat.mul_le_mul_left _ (by omega)
    have h0 := encN_pos w
    have h4 : encN w * 128 ^ a.length + encN w * 128 ^ a.length ≤ encN w * 128 ^ b.length := by
      rw [← Nat.mul_add]; exact Nat.mul_le_mul_left _ (by omega)
    have h5 : 128 ^ a.length ≤ encN w * 128 ^ a.length := Nat.le_mul_of_pos_left _ h0
    constructor <;> intro _ <;> omega
  · rw [z] at a1 ⊢
    omega
  · have h1 := encN_len hb ha z
    have h7 := encN_pos w
    have h2 : 128 ^ b.length * 128 ≤ 128 ^ a.length := by rw [← Nat.pow_succ]; exact Nat.pow_le_pow_right (by decide) z
    have h4 : encN w * 128 ^ b.length + encN w * 128 ^ b.length ≤ encN w * 128 ^ a.length := by
      rw [← Nat.mul_add]; exact Nat.mul_le_mul_left _ (by omega)
    have h5 : 128 ^ b.length ≤ encN w * 128 ^ b.length := Nat.le_mul_of_pos_left _ h7
    constructor <;> intro _ <;> omega
/-- what is known to come behind: a text for each word, or none -/
abbrev BT : Type := List Int → Option (List Int)
/-- the text is less than what is there -/
def lsO (xs : List Int) : Option (List Int) → Bool
  | none => true
  | some y => decide (encN xs < encN y)
/-- at most -/
def leO (o : Option (List Int)) (c : List Int) : Prop := ∃ x, o = some x ∧ encN x ≤ encN c
theorem lsO_not {c : List Int} {o : Option (List Int)} (h : lsO c o = false) : leO o c := by
  cases o with
  | none => cases h
  | some y => exact ⟨y, rfl, by have := of_decide_eq_false h; omega⟩
theorem lsO_le {c c' : List Int} {o : Option (List Int)} (h : lsO c o = true) (h2 : leO o c') : encN c < encN c' := by
  obtain ⟨x, rfl, hx⟩ := h2
  have := of_decide_eq_true h
  omega
def bset (β : BT) (v c : List Int) : BT := fun w => if w = v then some c else β w
theorem bset_eq {β : BT} {v c : List Int} : bset β v c v = some c := if_pos rfl
theorem bset_ne {β : BT} {v c w : List Int} (h : w ≠ v) : bset β v c w = β w := if_neg h
/-- what a rule offers to a word -/
def bcand (β : BT) (v s : List Int) : Option (List Int) := if s <+: v then (if v.drop s.length = [] then some [] else β (v.drop s.length)) else if v <+: s then (β (s.drop v.length)).map (fun y => s.drop v.length ++ y) else none
def ble (β β' : BT) : Prop := ∀ w x, β w = some x → leO (β' w) x
theorem ble.rf {β : BT} : ble β β := fun _ x h => ⟨x, h, Nat.le_refl _⟩
theorem ble.tr {β β' β'' : BT} (h1 : ble β β') (h2 : ble β' β'') : ble β β'' := fun w x h => by
  obtain ⟨y, hy, hyx⟩ := h1 w x h
  obtain ⟨z, hz, hzy⟩ := h2 w y hy
  exact ⟨z, hz, by omega⟩
theorem ble.le {β β' : BT} (h : ble β β') {w c : List Int} (hc : leO (β w) c) : leO (β' w) c := by
  obtain ⟨x, hx, hxc⟩ := hc
  obtain ⟨y, hy, hyx⟩ := h w x hx
  exact ⟨y, hy, by omega⟩
theorem ble_set {β : BT} {v c : List Int} (h : lsO c (β v) = true) : ble β (bset β v c) := by
  intro w x hw
  by_cases e : w = v
  · subst e
    rw [hw] at h
    exact ⟨c, bset_eq, by have := of_decide_eq_true h; omega⟩
  · exact ⟨x, by rw [bset_ne e]; exact hw, Nat.le_refl _⟩
/-- the texts' invariant: Ls are the words that have one -/
def bI (S : List (List Int)) (β : BT) (Ls : List (List Int)) : Prop := Ls.Nodup ∧ (∀ w ∈ Ls, (∃ k, k < 40 ∧ w = pt S k) ∧ β w ≠ none) ∧ ∀ w x, β w = some x → w ∈ Ls ∧ Be S w x ∧ x.length ≤ 3 * Ls.length
theorem bI.cap {S : List (List Int)} {β : BT} {Ls : List (List Int)} (h : bI S β Ls) : Ls.length ≤ 40 := by
  have := nodup_len Ls ((List.range 40).map (pt S)) h.1 (fun w hw => by
    obtain ⟨⟨k, hk, e⟩, _⟩ := h.2.1 w hw
    rw [List.mem_map]
    exact ⟨k, List.mem_range.mpr hk, e.symm⟩)
  rw [List.length_map, List.length_range] at this
  exact this
theorem bI.len {S : List (List Int)} {β : BT} {Ls : List (List Int)} (h : bI S β Ls) {w x : List Int} (hx : β w = some x) : x.length ≤ 120 := by
  have := h.cap
  have := (h.2.2 w x hx).2.2
  omega
theorem bI_0 {S : List (List Int)} : bI S (fun _ => none) [] := ⟨List.nodup_nil, (fun w hw => nomatch hw), (fun w x h => nomatch h)⟩
theorem bcand_be {S : List (List Int)} {β : BT} {Ls : List (List Int)} (h : bI S β Ls) {v s c : List Int} (hv : v ≠ []) (hs : s ∈ S) (hc : bcand β v s = some c) : Be S v c := by
  unfold bcand at hc
  by_cases h1 : s <+: v
  · rw [if_pos h1] at hc
    by_cases h2 : v.drop s.length = []
    · rw [if_pos h2] at hc
      rw [← Option.some.inj hc]
      exact Be.e0 hv hs h1 h2
    · rw [if_neg h2] at hc
      exact Be.e1 hv hs h1 (h.2.2 _ _ hc).2.1
  · rw [if_neg h1] at hc
    by_cases h2 : v <+: s
    · rw [if_pos h2, Option.map_eq_some_iff] at hc
      obtain ⟨y, hy, rfl⟩ := hc
      exact Be.e2 hv hs h1 h2 (h.2.2 _ _ hy).2.1
    · rw [if_neg h2] at hc
      exact nomatch hc
theorem bcand_len {S : List (List Int)} (hS : okS S) {β : BT} {Ls : List (List Int)} (h : bI S β Ls) {v s c : List Int} (hv : v ≠ []) (hs : s ∈ S) (hc : bcand β v s = some c) : c.length ≤ 3 * Ls.length + 3 := by
  unfold bcand at hc
  by_cases h1 : s <+: v
  · rw [if_pos h1] at hc
    by_cases h2 : v.drop s.length = []
    · rw [if_pos h2] at hc
      rw [← Option.some.inj hc]
      exact Nat.zero_le _
    · rw [if_neg h2] at hc
      have := (h.2.2 _ _ hc).2.2
      omega
  · rw [if_neg h1] at hc
    by_cases h2 : v <+: s
    · rw [if_pos h2, Option.map_eq_some_iff] at hc
      obtain ⟨y, hy, rfl⟩ := hc
      have := (h.2.2 _ _ hy).2.2
      have h4 := (hS.1 s hs).2
      have hvl := List.length_pos_iff.mpr hv
      rw [List.length_append, List.length_drop]
      omega
    · rw [if_neg h2] at hc
      exact nomatch hc
theorem bI_set {S : List (List Int)} (hS : okS S) {β : BT} {Ls : List (List Int)} (h : bI S β Ls) {v s c : List Int} {k : Nat} (hk : k < 40) (hkv : v = pt S k) (hv : v ≠ []) (hs : s ∈ S) (hc : bcand β v s = some c) (hl : lsO c (β v) = true) : ∃ Ls', bI S (bset β v c) Ls' := by
  have hbe := bcand_be h hv hs hc
  have hlen := bcand_len hS h hv hs hc
  cases hb : β v with
  | none =>
    have hni : v ∉ Ls := fun z => (h.2.1 v z).2 hb
    refine ⟨Ls ++ [v], ?_, ?_, ?_⟩
    · rw [List.nodup_append]
      refine ⟨h.1, List.pairwise_singleton _ _, fun a ha b hb2 => ?_⟩
      rw [List.mem_singleton] at hb2
      subst hb2
      exact fun z => hni (z ▸ ha)
    · intro w hw
      by_cases e : w = v
      · subst e
        exact ⟨⟨k, hk, hkv⟩, by rw [bset_eq]; exact fun z => nomatch z⟩
      · rw [bset_ne e]
        rcases List.mem_append.mp hw with z | z
        · exact h.2.1 w z
        · exact absurd (List.mem_singleton.mp z) e
    · intro w x hx
      rw [List.length_append, List.length_singleton]
      by_cases e : w = v
      · subst e
        rw [bset_eq] at hx
        rw [← Option.some.inj hx]
        exact ⟨List.mem_append_right _ (List.mem_singleton.mpr rfl), hbe, by omega⟩
      · rw [bset_ne e] at hx
        have := h.2.2 w x hx
        exact ⟨List.mem_append_left _ this.1, this.2.1, by omega⟩
  | some y =>
    have hy := h.2.2 v y hb
    rw [hb] at hl
    have hlt := of_decide_eq_true hl
    have hcy := encN_lenle (hbe.ok hS) (hy.2.1.ok hS) (Nat.le_of_lt hlt)
    refine ⟨Ls, h.1, fun w hw => ?_, fun w x hx => ?_⟩
    · by_cases e : w = v
      · subst e
        exact ⟨⟨k, hk, hkv⟩, by rw [bset_eq]; exact fun z => nomatch z⟩
      · rw [bset_ne e]; exact h.2.1 w hw
    · by_cases e : w = v
      · subst e
        rw [bset_eq] at hx
        rw [← Option.some.inj hx]
        exact ⟨hy.1, hbe, by omega⟩
      · rw [bset_ne e] at hx
        exact h.2.2 w x hx
theorem bcand_mono {S : List (List Int)} (hS : okS S) {β β' : BT} {Ls Ls' : List (List Int)} (h : bI S β Ls) (h' : bI S β' Ls') (hle : ble β β') {v s c : List Int} (hc : bcand β v s = some c) : leO (bcand β' v s) c := by
  unfold bcand at hc ⊢
  by_cases h1 : s <+: v
  · rw [if_pos h1] at hc ⊢
    by_cases h2 : v.drop s.length = []
    · rw [if_pos h2] at hc ⊢
      exact ⟨c, hc, Nat.le_refl _⟩
    · rw [if_neg h2] at hc ⊢
      exact hle _ _ hc
  · rw [if_neg h1] at hc ⊢
    by_cases h2 : v <+: s
    · rw [if_pos h2] at hc ⊢
      rw [Option.map_eq_some_iff] at hc
      obtain ⟨y, hy, rfl⟩ := hc
      obtain ⟨z, hz, hzy⟩ := hle _ _ hy
      exact ⟨s.drop v.length ++ z, by rw [hz]; rfl, (encN_prele ((h'.2.2 _ _ hz).2.1.ok hS) ((h.2.2 _ _ hy).2.1.ok hS)).mpr hzy⟩
    · rw [if_neg h2] at hc
      exact nomatch hc
/-- the words that are parts -/
def VP (S : List (List Int)) (v : List Int) : Prop := v ≠ [] ∧ ∃ k, k < 40 ∧ isL S v k
/-- all words have at most what any rule offers -/
def bfix (S : List (List Int)) (β β' : BT) : Prop := ∀ v, VP S v → ∀ s ∈ S, ∀ c, bcand β v s = some c → leO (β' v) c
theorem isL_ex {S : List (List Int)} : ∀ (p : Nat), okp S p → ∃ k, k ≤ p ∧ isL S (pt S p) k := by
  intro p
  induction p using Nat.strongRecOn with
  | _ p ih =>
    intro hp
    by_cases hc : ∃ j, j < p ∧ okp S j ∧ pt S j = pt S p
    · obtain ⟨j, hj, hjo, hje⟩ := hc
      obtain ⟨k, hk, hkl⟩ := ih j hj hjo
      rw [hje] at hkl
      exact ⟨k, by omega, hkl⟩
    · exact ⟨p, Nat.le_refl _, hp, rfl, fun j hj hjo hje => hc ⟨j, hj, hjo, hje⟩⟩
theorem VP.of {S : List (List Int)} (hS : okS S) {r q : Nat} (hr : r < S.length) (hq : q < (S.getD r []).length) : VP S ((S.getD r []).drop q) := by
  have h8 := hS.2.2
  have h4 : (S.getD r []).length ≤ 4 := by rw [getD_in hr]; exact (hS.1 _ (List.getElem_mem hr)).2
  obtain ⟨k, hk, hkl⟩ := isL_ex (S := S) (5 * r + q) (okp_mk (by omega) hr (by omega))
  rw [pt_mk (by omega)] at hkl
  refine ⟨fun z => ?_, k, by omega, hkl⟩
  have := List.drop_eq_nil_iff.mp z
  omega
theorem VP.dr {S : List (List Int)} (hS : okS S) {v : List Int} (h : VP S v) {n : Nat} (hn : v.drop n ≠ []) : VP S (v.drop n) := by
  obtain ⟨_, k, hk, hkl⟩ := h
  have e := hkl.2.1
  unfold pt at e
  rw [← e, List.drop_drop] at hn ⊢
  refine VP.of hS hkl.1.1 ?_
  rcases Nat.lt_or_ge (k % 5 + n) (S.getD (k / 5) []).length with z | z
  · exact z
  · exact absurd (List.drop_eq_nil_iff.mpr z) hn
theorem VP.sg {S : List (List Int)} (hS : okS S) {s : List Int} (hs : s ∈ S) {n : Nat} (hn : s.drop n ≠ []) : VP S (s.drop n) := by
  obtain ⟨r, hr, rfl⟩ := List.mem_iff_getElem.mp hs
  have e := getD_in hr
  rw [← e] at hn ⊢
  refine VP.of hS hr ?_
  rcases Nat.lt_or_ge n (S.getD r []).length with z | z
  · exact z
  · exact absurd (List.drop_eq_nil_iff.mpr z) hn
/-- when no word gets less any more, each has the least text -/
theorem bfix_fin {S : List (List Int)} (hS : okS S) {β : BT} {Ls : List (List Int)} (hI : bI S β Ls) (hf : bfix S β β) : ∀ (n : Nat) (v x : List Int), VP S v → Bn S n v x → leO (β v) x
  | 0, _, _, _, h => h.elim
  | n + 1, v, x, hV, h => by
    obtain ⟨hv, s, hs, ⟨hp, ⟨hd, rfl⟩ | ⟨hd, h⟩⟩ | ⟨hn, hp, y, h, rfl⟩⟩ := h
    · exact hf v hV s hs [] (by unfold bcand; rw [if_pos hp, if_pos hd])
    · obtain ⟨z, hz, hzx⟩ := bfix_fin hS hI hf n _ _ (hV.dr hS hd) h
      obtain ⟨u, hu, huz⟩ := hf v hV s hs z (by unfold bcand; rw [if_pos hp, if_neg hd]; exact hz)
      exact ⟨u, hu, by omega⟩
    · have hne : s.drop v.length ≠ [] := Be.ne ⟨n, h⟩
      obtain ⟨z, hz, hzx⟩ := bfix_fin hS hI hf n _ _ (VP.sg hS hs hne) h
      obtain ⟨u, hu, huz⟩ := hf v hV s hs (s.drop v.length ++ z) (by unfold bcand; rw [if_neg hn, if_pos hp, hz]; rfl)
      have := (encN_prele (w := s.drop v.length) ((hI.2.2 _ _ hz).2.1.ok hS) (Bn.ok hS n _ _ h)).mpr hzx
      exact ⟨u, hu, by omega⟩
/-- the least text behind -/
def Lb (S : List (List Int)) (v x : List Int) : Prop := Be S v x ∧ ∀ y, Be S v y → encN x ≤ encN y
theorem Lb.ex {S : List (List Int)} {v y : List Int} (h : Be S v y) : ∃ x, Lb S v x := by
  have key : ∀ (n : Nat) (y : List Int), encN y ≤ n → Be S v y → ∃ x, Lb S v x := by
    intro n
    induction n with
    | zero =>
      intro y hy h
      exact ⟨y, h, fun z _ => by omega⟩
    | succ n ih =>
      intro y hy h
      by_cases hc : ∃ z, Be S v z ∧ encN z < encN y
      · obtain ⟨z, hz, hzy⟩ := hc
        exact ih z (by omega) hz
      · refine ⟨y, h, fun z hz => ?_⟩
        rcases Nat.lt_or_ge (encN z) (encN y) with q | q
        · exact absurd ⟨z, hz, q⟩ hc
        · exact q
  exact key _ y (Nat.le_refl _) h
/-- after p rounds: the words whose least text needs at most p steps have it -/
def bR (S : List (List Int)) (p : Nat) (β : BT) : Prop := ∀ n, n ≤ p → ∀ v x, VP S v → Bn S n v x → Lb S v x → leO (β v) x
theorem bR_0 {S : List (List Int)} {β : BT} : bR S 0 β := fun n hn v x _ h => by
  have : n = 0 := by omega
  subst this
  exact h.elim
theorem bR_nx {S : List (List Int)} (hS : okS S) {p : Nat} {β β' : BT} {Ls : List (List Int)} (hI : bI S β Ls) (h : bR S p β) (hf : bfix S β β') : bR S (p + 1) β' := by
  intro n hn v x hV hx hL
  cases n with
  | zero => exact hx.elim
  | succ n =>
    obtain ⟨hv, s, hs, ⟨hp, ⟨hd, rfl⟩ | ⟨hd, hb⟩⟩ | ⟨hnp, hp, y, hb, rfl⟩⟩ := hx
    · exact hf v hV s hs [] (by unfold bcand; rw [if_pos hp, if_pos hd])
    · obtain ⟨z, hz, hzx⟩ := h n (by omega) _ _ (hV.dr hS hd) hb ⟨⟨n, hb⟩, fun y hy => hL.2 y (Be.e1 hv hs hp hy)⟩
      obtain ⟨u, hu, huz⟩ := hf v hV s hs z (by unfold bcand; rw [if_pos hp, if_neg hd]; exact hz)
      exact ⟨u, hu, by omega⟩
    · have hne : s.drop v.length ≠ [] := Be.ne ⟨n, hb⟩
      obtain ⟨z, hz, hzx⟩ := h n (by omega) _ _ (VP.sg hS hs hne) hb ⟨⟨n, hb⟩, fun y' hy' => (encN_prele (Bn.ok hS n _ _ hb) (hy'.ok hS)).mp (hL.2 _ (Be.e2 hv hs hnp hp hy'))⟩
      obtain ⟨u, hu, huz⟩ := hf v hV s hs (s.drop v.length ++ z) (by unfold bcand; rw [if_neg hnp, if_pos hp, hz]; rfl)
      have := (encN_prele (w := s.drop v.length) ((hI.2.2 _ _ hz).2.1.ok hS) (Bn.ok hS n _ _ hb)).mpr hzx
      exact ⟨u, hu, by omega⟩
theorem bR_N {S : List (List Int)} (hS : okS S) : ∃ N, ∀ v, VP S v → ∀ x, Lb S v x → ∃ n, n ≤ N ∧ Bn S n v x := by
  have key : ∀ l : List (List Int), ∃ N, ∀ v ∈ l, ∀ x, Lb S v x → ∃ n, n ≤ N ∧ Bn S n v x := by
    intro l
    induction l with
    | nil => exact ⟨0, fun v hv => nomatch hv⟩
    | cons a l ih =>
      obtain ⟨N, hN⟩ := ih
      by_cases hc : ∃ x, Lb S a x
      · obtain ⟨x, hx⟩ := hc
        obtain ⟨n, hn⟩ := hx.1
        refine ⟨max N n, fun v hv y hy => ?_⟩
        rcases List.mem_cons.mp hv with rfl | hv
        · have e : y = x := (encN_inj (hy.1.ok hS) (hx.1.ok hS)).mp (Nat.le_antisymm (hy.2 x hx.1) (hx.2 y hy.1))
          rw [e]
          exact ⟨n, Nat.le_max_right _ _, hn⟩
        · obtain ⟨k, hk, hb⟩ := hN v hv y hy
          exact ⟨k, Nat.le_trans hk (Nat.le_max_left _ _), hb⟩
      · refine ⟨N, fun v hv y hy => ?_⟩
        rcases List.mem_cons.mp hv with rfl | hv
        · exact absurd ⟨y, hy⟩ hc
        · exact hN v hv y hy
  obtain ⟨N, hN⟩ := key ((List.range 40).map (pt S))
  refine ⟨N, fun v hV x hx => hN v ?_ x hx⟩
  obtain ⟨_, k, hk, hkl⟩ := hV
  rw [List.mem_map]
  exact ⟨k, List.mem_range.mpr hk, hkl.2.1⟩
/-- when all have it, nothing less is offered -/
theorem bR_all {S : List (List Int)} {N p : Nat} (hN : ∀ v, VP S v → ∀ x, Lb S v x → ∃ n, n ≤ N ∧ Bn S n v x) (hp : N ≤ p) {β : BT} (h : bR S p β) {v c : List Int} (hV : VP S v) (hc : Be S v c) : lsO c (β v) = false := by
  obtain ⟨x, hx⟩ := Lb.ex hc
  obtain ⟨n, hn, hb⟩ := hN v hV x hx
  obtain ⟨z, hz, hzx⟩ := h n (by omega) v x hV hb hx
  rw [hz]
  have := hx.2 c hc
  exact decide_eq_false (by omega)
