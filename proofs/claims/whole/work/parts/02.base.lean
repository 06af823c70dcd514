/-! values, heaps, worlds of this proof: ints and longs are Ints (the machine's word is their ofInt), a reference is a number counted from the law's first new cell -/
def z_isN : Cond → Bool
  | .fieldLinkNest .. => true
  | .methodLinkNest .. => true
  | _ => false
def z_gw : List Cond := lw_tbl.filter goodWord
def z_nw : List Cond := lw_tbl.filter z_isN
theorem z_mem (i : Nat) {w : Cond} (h : lw_tbl[i]? = some w) (hg : goodWord w = true) : w ∈ z_gw := List.mem_filter.mpr ⟨List.mem_of_getElem? h, hg⟩
theorem z_memN (i : Nat) {w : Cond} (h : lw_tbl[i]? = some w) (hg : z_isN w = true) : w ∈ z_nw := List.mem_filter.mpr ⟨List.mem_of_getElem? h, hg⟩
theorem z_good : GoodIn z_gw z_gw := fun w h => ⟨h, good_of_word (List.mem_filter.mp h).2⟩
abbrev zV : Type := Int ⊕ Int ⊕ Option Nat ⊕ Unit
def vI (z : Int) : zV := .inl z
def vL (z : Int) : zV := .inr (.inl z)
def vO (o : Option Nat) : zV := .inr (.inr (.inl o))
def vJ : zV := .inr (.inr (.inr ()))
abbrev vR (a : Nat) : zV := vO (some a)
abbrev vN : zV := vO none
def z_mv (b : Nat) : zV → Value
  | .inl z => .int (Int32.ofInt z)
  | .inr (.inl z) => .long (Int64.ofInt z)
  | .inr (.inr (.inl o)) => va_rf (o.map (b + ·))
  | .inr (.inr (.inr _)) => .null
abbrev zH : Type := (Nat × (Nat → Nat × Nat)) × (Nat → Nat → Int) × (Nat → Nat → Int) × (Nat → Nat → Option Nat)
def gS (h : zH) : Nat := h.1.1
def gK (h : zH) : Nat → Nat × Nat := h.1.2
def gI (h : zH) : Nat → Nat → Int := h.2.1
def gL (h : zH) : Nat → Nat → Int := h.2.2.1
def gR (h : zH) : Nat → Nat → Option Nat := h.2.2.2
def sI (h : zH) (a k : Nat) (z : Int) : zH := (h.1, (fun b j => if b = a ∧ j = k then z else gI h b j), gL h, gR h)
def sL (h : zH) (a k : Nat) (z : Int) : zH := (h.1, gI h, (fun b j => if b = a ∧ j = k then z else gL h b j), gR h)
def sR (h : zH) (a k : Nat) (o : Option Nat) : zH := (h.1, gI h, gL h, (fun b j => if b = a ∧ j = k then o else gR h b j))
/-- a new cell of a kind -/
def nC (h : zH) (kd : Nat × Nat) : zH := ((gS h + 1, fun a => if a = gS h then kd else gK h a), (fun a j => if a = gS h then 0 else gI h a j), (fun a j => if a = gS h then 0 else gL h a j), (fun a j => if a = gS h then none else gR h a j))
def z_ty (c k : Nat) : FieldType := match c with
  | 0 => tyX0 k
  | 1 => tyX1 k
  | 2 => tyX2 k
  | 3 => tyX3 k
  | 4 => tyX4 k
  | 5 => tyX5 k
  | 6 => tyX6 k
  | 7 => tyX7 k
  | _ => tyX8 k
def z_nf (c : Nat) : Nat := match c with
  | 0 => 3
  | 1 => 15
  | 2 => 11
  | 3 => 3
  | 4 => 6
  | 5 => 14
  | 6 => 6
  | 7 => 6
  | _ => 22
def z_fv (b : Nat) (h : zH) (a k : Nat) (t : FieldType) : Value := match t with
  | .int => .int (Int32.ofInt (gI h a k))
  | .boolean => .int (Int32.ofInt (gI h a k))
  | .long => .long (Int64.ofInt (gL h a k))
  | _ => va_rf ((gR h a k).map (b + ·))
def z_fs (b : Nat) (h : zH) (a c : Nat) : List Value := (List.range (z_nf c)).map (fun k => z_fv b h a k (z_ty c k))
def z_cE (b : Nat) (ac : Nat → ClassId) (h : zH) (a : Nat) : va_E :=
  if (gK h a).1 < 9 then .inr ((gK h a).1, z_fs b h a (gK h a).1)
  else if (gK h a).1 = 9 then .inl (ac 9, (gK h a).2, .inl (fun j => Int32.ofInt (gI h a j)))
  else if (gK h a).1 = 10 then .inl (ac 10, (gK h a).2, .inr (.inl (fun j => Int64.ofInt (gL h a j))))
  else if (gK h a).1 = 11 then .inl (ac 11, (gK h a).2, .inl (fun j => Int32.ofInt (gI h a j)))
  else .inl (ac (gK h a).1, (gK h a).2, .inr (.inr (.inr (.inr (fun j => (gR h a j).map (b + ·))))))
def z_ws (b : Nat) (ac : Nat → ClassId) (h : zH) : va_W := (List.range (gS h)).map (fun a => (b + a, z_cE b ac h a))
theorem z_ws_at {b : Nat} {ac : Nat → ClassId} {h : zH} {a : Nat} (ha : a < gS h) : (z_ws b ac h)[a]? = some (b + a, z_cE b ac h a) := by
  simp [z_ws, ha]
theorem z_ws_some {b : Nat} {ac : Nat → ClassId} {h : zH} {k : Nat} {q : Nat × va_E} (hq : (z_ws b ac h)[k]? = some q) : k < gS h ∧ q = (b + k, z_cE b ac h k) := by
  have h1 : k < (z_ws b ac h).length := (List.getElem?_eq_some_iff.mp hq).1
  have h2 : k < gS h := by simpa [z_ws] using h1
  rw [z_ws_at h2] at hq
  exact ⟨h2, (Option.some.inj hq).symm⟩
theorem z_ws_D {b : Nat} {ac : Nat → ClassId} {h : zH} : va_D (fun q => b ≤ q) (z_ws b ac h) := by
  refine ⟨fun i j p q hi hj e => ?_, fun k q hk => ?_⟩
  · obtain ⟨-, rfl⟩ := z_ws_some hi
    obtain ⟨-, rfl⟩ := z_ws_some hj
    exact Nat.add_left_cancel e
  · obtain ⟨-, rfl⟩ := z_ws_some hk
    exact Nat.le_add_right _ _
theorem z_ws_set {b : Nat} {ac : Nat → ClassId} {h h' : zH} {a : Nat} {e : va_E} (hs : gS h' = gS h) (he : z_cE b ac h' a = e) (ho : ∀ q, q ≠ a → z_cE b ac h' q = z_cE b ac h q) : (z_ws b ac h).set a (b + a, e) = z_ws b ac h' := by
  apply List.ext_getElem?
  intro k
  by_cases hk : k < gS h
  · by_cases hka : k = a
    · subst hka
      rw [List.getElem?_set_self (by simpa [z_ws] using hk), z_ws_at (by rw [hs]; exact hk), he]
    · rw [List.getElem?_set_ne (Ne.symm hka), z_ws_at hk, z_ws_at (by rw [hs]; exact hk), ho k hka]
  · rw [List.getElem?_eq_none (by simp [z_ws]; omega), List.getElem?_eq_none (by simp [z_ws, hs]; omega)]
theorem z_ws_push {b : Nat} {ac : Nat → ClassId} {h h' : zH} {e : va_E} (hs : gS h' = gS h + 1) (he : z_cE b ac h' (gS h) = e) (ho : ∀ q, q < gS h → z_cE b ac h' q = z_cE b ac h q) : z_ws b ac h ++ [(b + gS h, e)] = z_ws b ac h' := by
  unfold z_ws
  rw [hs, List.range_succ, List.map_append, List.map_singleton, he]
  congr 1
  refine List.map_congr_left fun q hq => ?_
  rw [ho q (List.mem_range.mp hq)]
/-- the machine's heap holds the picture -/
abbrev zG : Type := Nat × va_G × (Nat → ClassId)
def z_Rel (G : zG) (h : zH) (H : Heap) : Prop := va_P G.2.1 vwCl (z_ws G.1 G.2.2 h) H ∧ H.size = G.1 + gS h ∧ ∀ a, gS h ≤ a → 14 ≤ (gK h a).1
def z_tys (ac : Nat → ClassId) : List (ClassId × FieldType) := [(ac 9, .int), (ac 10, .long), (ac 11, .boolean), (ac 12, .object RX4), (ac 13, .object RX6)]
def z_Kn (G : zG) (U : State) : Prop := va_K G.2.1 vwCl (z_tys G.2.2) U ∧ (∀ w ∈ z_nw, va_Nw w U) ∧ va_AO RX4 U ∧ va_AO RX6 U
theorem z_nw_tab {w : Cond} (h : w ∈ z_nw) : w.onTables = true := by
  have h2 := (List.mem_filter.mp h).2
  cases w <;> first | rfl | (simp [z_isN] at h2)
theorem z_Kn.warm {G : zG} {s U : State} (hW : s.WarmedH U.vm) (h : z_Kn G s) : z_Kn G U := by
  refine ⟨va_K.moved hW.alike h.1, fun w hw => ?_, h.2.2.1.moved hW.alike, h.2.2.2.moved hW.alike⟩
  have h1 := h.2.1 w hw
  have h2 := (List.mem_filter.mp hw).2
  cases w with
  | fieldLinkNest a b c d e f => exact va_Nw.warmF hW h1
  | methodLinkNest a b c d => exact va_Nw.warmM hW h1
  | _ => simp [z_isN] at h2
theorem z_Kn.same {G : zG} {s U : State} (hvm : s.vm = U.vm) (h : z_Kn G s) : z_Kn G U := by
  have ha : s.vm.Alike U.vm := by rw [hvm]; exact Vm.Alike.refl _
  exact ⟨va_K.moved ha h.1, fun w hw => va_Nw.same (z_nw_tab hw) hvm (h.2.1 w hw), h.2.2.1.moved ha, h.2.2.2.moved ha⟩
/-- a method: its name, code, locals, answer -/
abbrev zM : Type := MethodName × ByteArray × Nat × Option FieldType
def z_rm (lv mc ms : Nat) : Room := { frames := lv, cells := mc, slots := ms, locals := 40 * lv }
def z_wo (μ : zM) : List Cond := Cond.code μ.1 μ.2.1 μ.2.2.1 μ.2.2.2 :: z_gw
def z_Pc (G : zG) (av : List zV) (h : zH) : Array Value → State → Prop := fun v U => v = (av.map (z_mv G.1)).toArray ∧ z_Rel G h U.heap ∧ z_Kn G U ∧ G.1 ≤ U.heap.size
def z_Qc (G : zG) (Q : Option zV → zH → Prop) : Array Value → State → Outcome → State → Prop := fun _ st oc t => (∃ (r : Option zV) (h' : zH), oc = .returned (r.map (z_mv G.1)) ∧ Q r h' ∧ z_Rel G h' t.heap) ∧ va_F (fun q => G.1 ≤ q) st t
/-- the contract of a method at a level of room -/
def z_Sp (l : Launch) (G : zG) (μ : zM) (lv mc ms : Nat) (av : List zV) (h : zH) (Q : Option zV → zH → Prop) : Prop :=
  Met l μ.1 (z_wo μ) (z_rm lv mc ms) (z_Pc G av h) (z_Qc G Q) mc ms (fun q => G.1 ≤ q)
/-- locals -/
def z_LR (b : Nat) (ls : List zV) (A : Array Slot) : Prop := A.size = ls.length ∧ lv_wf A ∧ ∀ (k : Nat) (v : zV), ls[k]? = some v → v ≠ vJ → A[k]? = some (.val (z_mv b v))
def z_Cx (G : zG) (μ : zM) (p : Program) (s : State) (m : MethodId) (args : Array Value) (meth : Method) (c : Code) : Prop :=
  p.tables.exec = Jvm.exec ∧ c.code = μ.2.1 ∧ c.maxLocals = μ.2.2.1 ∧ meth.sig.returnType = μ.2.2.2 ∧ meth.locks = false ∧ meth.name = μ.1.name ∧ s.vm.findClass μ.1.cls = some m.cls ∧ (∀ w ∈ z_gw, w.before args s = true) ∧ z_Kn G s ∧ G.1 ≤ s.heap.size
/-- the machine at pc with the picture h, the locals ls, the stack st comes to a return that Q holds of -/
def z_X (l : Launch) (G : zG) (μ : zM) (lv mc ms : Nat) (Q : Option zV → zH → Prop) (cells slots : Nat) (h : zH) (pc : Nat) (ls st : List zV) : Prop :=
  ∀ (p : Program) (e : Env) (s : State) (m : MethodId) (args : Array Value) (below : List Frame) (meth : Method) (c : Code) (H : Heap) (locs : List Loc) (A : Array Slot),
    z_Cx G μ p s m args meth c → z_Rel G h H → va_S (fun q => G.1 ≤ q) s.heap H locs → z_LR G.1 ls A → ls.length = μ.2.2.1 → cells ≤ mc → slots ≤ ms → 1 ≤ lv →
    W p l e (z_rm lv mc ms) s m args below meth c H locs cells slots (MQ below (z_Qc G Q) args s mc ms (fun q => G.1 ≤ q)) (F0 m pc A (st.map (z_mv G.1)))
abbrev zK : Type := zH → Nat → List zV → List zV → Prop
abbrev zO : Type := zK → zK → (Option zV → zH → Prop) → zK
/-- an instruction's meaning is sound at a place of a method's code -/
def z_S (μ : zM) (pc : Nat) (o : zO) : Prop := ∀ (l : Launch) (G : zG) (lv mc ms : Nat) (Q : Option zV → zH → Prop) (cells slots : Nat) (K : zK), (∀ h pc ls st, K h pc ls st → z_X l G μ lv mc ms Q cells slots h pc ls st) →
  ∀ (h : zH) (ls st : List zV), o (z_X l G μ lv mc ms Q cells slots) K Q h pc ls st → z_X l G μ lv mc ms Q cells slots h pc ls st
