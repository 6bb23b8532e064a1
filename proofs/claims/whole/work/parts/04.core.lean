/-! ===== the abstract machine: worlds whose cells lie one behind the other from z on; ints and longs as Int ===== -/
abbrev iZ (a : Int) : Int32 := Int32.ofInt a
abbrev lZ (a : Int) : Int64 := Int64.ofInt a
def inR (a : Int) : Prop := -2147483648 ≤ a ∧ a < 2147483648
def inL (a : Int) : Prop := -9223372036854775808 ≤ a ∧ a < 9223372036854775808
abbrev am_cl : List vw_C := [(RX0, TX0, 7), (RX1, TX1, 2), (RX3, TX3, 3), (RX4, TX4, 4), (RX5, TX5, 2), (RX6, TX6, 4), (RX7, TX7, 3), (RX8, TX8, 8), (RX10, TX10, 14), (RX11, TX11, 38)]
abbrev am_M : Type := MethodName × ByteArray × Nat × Option FieldType
/-- int fields, long fields, arrays of ints -/
abbrev am_St : Type := (Nat → Nat → Int) × (Nat → Nat → Int) × (Nat → Int → Int)
/-- an array (its kind: 0 int, 1 boolean, 2 of Lines; its length; what an array of references holds), or an object (its class, its fields' kinds: 0 int, 1 long, 2 null, r + 3 the cell r) -/
abbrev am_Sc : Type := (Nat × Nat × Option (Nat → Option Nat)) ⊕ (Nat × List Nat)
abbrev am_Sh : Type := List am_Sc
def am_v (φ : Nat → Nat) : Value → Value
  | .ref k => .ref (φ k)
  | v => v
def am_fv (φ : Nat → Nat) (σ : am_St) (k j : Nat) : Nat → Value
  | 0 => .int (iZ (σ.1 k j))
  | 1 => .long (lZ (σ.2.1 k j))
  | 2 => .null
  | r + 3 => .ref (φ r)
def am_E (dA : Nat → ClassId) (φ : Nat → Nat) (σ : am_St) (k : Nat) : am_Sc → va_E
  | .inl (t, n, none) => .inl (dA t, n, .inl (fun i => iZ (σ.2.2 k (i : Int))))
  | .inl (t, n, some g) => .inl (dA t, n, .inr (.inr (.inr (.inr (fun i => (g i).map φ)))))
  | .inr (ci, ks) => .inr (ci, ks.mapIdx (fun j kd => am_fv φ σ k j kd))
def am_ws (dA : Nat → ClassId) (φ : Nat → Nat) (σ : am_St) (sh : am_Sh) : va_W := sh.mapIdx (fun k x => (φ k, am_E dA φ σ k x))
abbrev am_tys (dA : Nat → ClassId) : List (ClassId × FieldType) := [(dA 0, .int), (dA 1, .boolean), (dA 2, .object RX1)]
/-- the heap holds the world: its cells lie at φ 0, φ 1 .., apart, from z on -/
def am_P (D : va_G) (dA : Nat → ClassId) (z : Nat) (φ : Nat → Nat) (sh : am_Sh) (σ : am_St) (H : Heap) : Prop := va_P D am_cl (am_ws dA φ σ sh) H ∧ va_D (fun q => z ≤ q) (am_ws dA φ σ sh)
def am_Q (D : va_G) (dA : Nat → ClassId) (z : Nat) (φ : Nat → Nat) (sh : am_Sh) (Q : Option Value → am_St → Prop) : Array Value → State → Outcome → State → Prop := fun _ st o t => (∃ (r : Option Value) (σ : am_St), o = .returned (r.map (am_v φ)) ∧ Q r σ ∧ am_P D dA z φ sh σ t.heap) ∧ va_F (fun q => z ≤ q) st t
/-- links to a nest mate's private methods: told from call to call beside the words -/
def am_nest : List (String × Nat × MethodName × String) := [(RX4, 54, yX10_isSmall, "SpellTables"), (RX4, 60, yX10_isCapital, "SpellTables")]
def am_K (D : va_G) (dA : Nat → ClassId) (U : State) : Prop := va_K D am_cl (am_tys dA) U ∧ ∀ q ∈ am_nest, va_Nw (.methodLinkNest q.1 q.2.1 q.2.2.1 q.2.2.2) U
theorem am_K.calling {D : va_G} {dA : Nat → ClassId} {U : State} {g : JFrame} {mk : MethodId} {a : Array Value} (h : am_K D dA U) : am_K D dA (U.calling g mk a) := ⟨va_K.moved (u := U) (U := U.calling g mk a) (Vm.Alike.refl U.vm) h.1, fun q hq => va_Nw.same rfl rfl (h.2 q hq)⟩
theorem am_K.warm {D : va_G} {dA : Nat → ClassId} {s U : State} (hW : s.WarmedH U.vm) (h : am_K D dA s) : am_K D dA U := ⟨va_K.moved hW.alike h.1, fun q hq => va_Nw.warmM hW (h.2 q hq)⟩
abbrev am_room (d : Nat) : Room := { frames := d, cells := 0, slots := 0, locals := 32 * d }
/-- the tables' words that a callee may be told -/
def am_tbl : List Cond := lw_tbl.filter goodWord
theorem am_mem {w : Cond} (h : w ∈ lw_tbl) (hg : goodWord w = true) : w ∈ am_tbl := List.mem_filter.mpr ⟨h, hg⟩
abbrev am_wd (M : am_M) : List Cond := Cond.code M.1 M.2.1 M.2.2.1 M.2.2.2 :: am_tbl
/-- the method M, with these arguments from this world, returns, and Q holds of answer and world; d: how many frames it needs -/
def am_Ev (sh : am_Sh) (M : am_M) (d : Nat) (av : List Value) (σ : am_St) (Q : Option Value → am_St → Prop) : Prop :=
  ∀ (l : Launch) (D : va_G) (dA : Nat → ClassId) (z : Nat) (φ : Nat → Nat), Met l M.1 (am_wd M) (am_room d) (va_Pc (av.map (am_v φ)) (fun U => am_P D dA z φ sh σ U.heap ∧ am_K D dA U)) (am_Q D dA z φ sh Q) 0 0 (fun q => z ≤ q)
def am_Cx (M : am_M) (D : va_G) (dA : Nat → ClassId) (p : Program) (s : State) (m : MethodId) (args : Array Value) (meth : Method) (c : Code) : Prop :=
  p.tables.exec = Jvm.exec ∧ c.code = M.2.1 ∧ meth.sig.returnType = M.2.2.2 ∧ c.maxLocals = M.2.2.1 ∧ s.vm.findClass M.1.cls = some m.cls ∧ (∀ w ∈ am_wd M, w.before args s = true) ∧ meth.locks = false ∧ am_K D dA s
def am_Ls (φ : Nat → Nat) (ls : Array Slot) (n : Nat) (lv : List (Option Value)) : Prop := ls.size = n ∧ lv_wf ls ∧ ∀ (i : Nat) (v : Value), lv[i]? = some (some v) → ls[i]? = some (.val (am_v φ v))
/-- the machine in the body of M, at pc, with these locals, this stack and this world, comes to the method's end with Q -/
def am_Go (sh : am_Sh) (M : am_M) (d : Nat) (Q : Option Value → am_St → Prop) (pc : Nat) (lv : List (Option Value)) (st : List Value) (σ : am_St) : Prop :=
  ∀ (p : Program) (l : Launch) (e : Env) (D : va_G) (dA : Nat → ClassId) (z : Nat) (φ : Nat → Nat) (s : State) (m : MethodId) (args : Array Value) (below : List Frame) (meth : Method) (c : Code), am_Cx M D dA p s m args meth c → ∀ (H : Heap) (locs : List Loc) (ls : Array Slot), am_P D dA z φ sh σ H → va_S (fun q => z ≤ q) s.heap H locs → am_Ls φ ls M.2.2.1 lv → W p l e (am_room d) s m args below meth c H locs 0 0 (MQ below (am_Q D dA z φ sh Q) args s 0 0 (fun q => z ≤ q)) (F0 m pc ls (st.map (am_v φ)))
theorem am_cat (φ : Nat → Nat) (v : Value) : (am_v φ v).category = v.category := by cases v <;> rfl
theorem am_ws_get {dA : Nat → ClassId} {φ : Nat → Nat} {σ : am_St} {sh : am_Sh} {k : Nat} {x : am_Sc} (h : sh[k]? = some x) : (am_ws dA φ σ sh)[k]? = some (φ k, am_E dA φ σ k x) := by
  unfold am_ws
  rw [List.getElem?_mapIdx, h]
  rfl
theorem iZ_toInt {a : Int} (h : inR a) : (iZ a).toInt = a := by
  unfold inR at h
  exact Int32.toInt_ofInt_of_le (by omega) (by omega)
theorem iZ_of (x : Int32) : iZ x.toInt = x := Int32.ofInt_toInt x
theorem inR_of (x : Int32) : inR x.toInt := ⟨Int32.le_toInt x, Int32.toInt_lt x⟩
theorem iZ_clamp {a : Int} (h : inR a) : (iZ a).toNatClampNeg = a.toNat := by
  show (iZ a).toInt.toNat = a.toNat
  rw [iZ_toInt h]
theorem iZ_lt {a b : Int} (ha : inR a) (hb : inR b) : iZ a < iZ b ↔ a < b := by
  rw [Int32.lt_iff_toInt_lt, iZ_toInt ha, iZ_toInt hb]
theorem iZ_le {a b : Int} (ha : inR a) (hb : inR b) : iZ a ≤ iZ b ↔ a ≤ b := by
  rw [Int32.le_iff_toInt_le, iZ_toInt ha, iZ_toInt hb]
theorem iZ_inj {a b : Int} (ha : inR a) (hb : inR b) : iZ a = iZ b ↔ a = b := by
  constructor
  · intro h
    have := congrArg Int32.toInt h
    rwa [iZ_toInt ha, iZ_toInt hb] at this
  · intro h; rw [h]
theorem iZ_in {a : Int} {n : Nat} (h0 : 0 ≤ a) (h1 : a < n) (hn : n < 2147483648) : vp_in (iZ a) n := by
  rw [vp_in_iff, iZ_toInt ⟨by omega, by omega⟩]
  exact ⟨h0, h1⟩
theorem lZ_toInt {a : Int} (h : inL a) : (lZ a).toInt = a := by
  unfold inL at h
  exact Int64.toInt_ofInt_of_le (by omega) (by omega)
