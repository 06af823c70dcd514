/-! THE CLAIM OUT OF ONE WALK OF THE LAW'S BODY. Your part is whole_start (and what it stands on); all else here is the same for every law, but numbers. -/
def R_law : String := "VersionResolverLaw"
def lw_P (b : Addr) (xs : List Int32) (args : Array Value) (s : State) : Prop := args = #[.ref b] ∧ s.IntsAt b xs ∧ xs.length ≤ 1536 ∧ (Jvm.Cond.and given_1 narrow_1).before args s = true
def lw_Q (_ : Array Value) (s : State) (o : Outcome) (t : State) : Prop := o = .returned (some (.int 1)) ∧ Framed s o t [] 600000 7302249
def lw_Z (below : List Frame) (a : Array Value) (s : State) : State → Prop := fun t => ∃ o, t.status = .running ∧ Ended t below o ∧ lw_Q a s o t
/-- the law's own end, with 1 on the stack, nothing written that was there before, its room as the claim has it -/
theorem lw_ret {p : Program} {l : Launch} {e : Env} {s : State} {m : MethodId} {below : List Frame} {meth : Method} {c : Code} {b : Nat} (hx : p.tables.exec = Jvm.exec) (hb : c.code = code) (hr : meth.sig.returnType = ret) (hlocks : meth.locks = false) {pc : Nat} {H : Heap} {ls : Array Slot} (hdg : decode code pc = .ok (.ireturn, 1)) : W p l e room_1 s m #[Value.ref b] below meth c H [] 600000 7302249 (lw_Z below #[Value.ref b] s) (F0 m pc ls [.int 1]) := by
  intro T hT X
  obtain ⟨fs, hret, hrun, hended, hW, hframe⟩ := X.leave (v := some (.int 1)) (hlocks := hlocks) (fun h => by rw [hr] at h; cases h)
  have hmeth' : T.vm.method? m = some meth := X.method'
  refine ⟨T.setFrames fs, ?_, .returned (some (.int 1)), hrun, hended, rfl, ⟨_, rfl⟩, hW, hframe⟩
  jvm_step X.here [X.here.top, hx, hb, hdg, hmeth', hr, ret, narrow_b1]
  (try refine ⟨rfl, ?_⟩); (try refine ⟨rfl, ?_⟩)
  first | (intro acts; rw [hret _ acts rfl rfl rfl]) | rw [hret _ _ rfl rfl rfl]
  exact Steps.refl _
/-- what holds at the law's entry: the machine, the code, the tables' words (any of lw_tbl by 'hts w (by decide +kernel)'), the script of L ints xs at the cell b, what the Statement gives of the start (any of its parts by flat_of_before) -/
def lw_At (p : Program) (s : State) (m : MethodId) (meth : Method) (c : Code) (b L : Nat) (xs : Nat → Int32) : Prop :=
  p.tables.exec = Jvm.exec ∧ c.code = code ∧ meth.sig.returnType = ret ∧ c.maxLocals = 4 ∧ s.vm.findClass R_law = some m.cls ∧ (∀ w ∈ lw_tbl, w.before #[Value.ref b] s = true) ∧ va_X b L xs s s.heap ∧ b < s.heap.size ∧ meth.locks = false ∧ (Jvm.Cond.and given_1 narrow_1).before #[Value.ref b] s = true
/-! the law's own steps -/
theorem y_nw (c : Nat) (hc : c < 9) : Cond.instantiable (z_cl c).1 (z_nf c) ∈ z_gw := by
  match c, hc with
  | 0, _ => exact nw_X0
  | 1, _ => exact nw_X1
  | 2, _ => exact nw_X2
  | 3, _ => exact nw_X3
  | 4, _ => exact nw_X4
  | 5, _ => exact nw_X5
  | 6, _ => exact nw_X6
  | 7, _ => exact nw_X7
  | 8, _ => exact nw_X8
  | n + 9, h => exact absurd h (by omega)
theorem y_ov4 : Cond.arrayOver (.object RX4) ∈ lw_tbl := by decide +kernel
theorem y_ov6 : Cond.arrayOver (.object RX6) ∈ lw_tbl := by decide +kernel
theorem y_arr {s : State} {args : Array Value} {t : FieldType} (h : (Cond.arrayClass t).before args s = true) : ∃ c : ClassId, ArrOfT s c t ∧ s.vm.findClass ("[" ++ t.toString) = some c := by
  obtain ⟨c, k, comp, h1, h2, h3⟩ := Cond.arrayClass_spec h
  exact ⟨c, fun n z => ⟨(fun k h => by cases h), k, h2, comp, h3⟩, h1⟩
theorem y_arq {s : State} {args : Array Value} {C : String} (h : (Cond.arrayOver (.object C)).before args s = true) : ∃ c : ClassId, ArrOfT s c (.object C) ∧ va_RA s c (.object C) := by
  obtain ⟨comp, c, k, h1, h2, h3, h4, h5⟩ := Cond.arrayOver_spec h
  exact ⟨c, fun n z => ⟨(fun k h => by cases h), k, h3, comp, h4⟩, k, comp, h3, h4, h1, h5⟩
theorem y_Kn {s : State} {args : Array Value} (hts : ∀ w ∈ lw_tbl, w.before args s = true) : ∃ G : zG, G.1 = s.heap.size ∧ z_Kn G s := by
  have hgw : ∀ w ∈ z_gw, w.before args s = true := fun w hw => hts w (List.mem_filter.mp hw).1
  have hcl : ∀ c : Nat, ∃ (cC : ClassId) (iS : Nat → Nat), c < 9 → u_Kn s (z_cl c).1 (z_cl c).2.1 (z_cl c).2.2 cC iS := by
    intro c
    by_cases hc : c < 9
    · obtain ⟨cC, iS, hk⟩ := u_known (C := (z_cl c).1) (T := (z_cl c).2.1) (N := (z_cl c).2.2) (n := z_nf c) hgw (z_clok c hc).2.1 (hgw _ (y_nw c hc))
      exact ⟨cC, iS, fun _ => hk⟩
    · exact ⟨0, fun _ => 0, fun h => absurd h hc⟩
  obtain ⟨c9, a9, b9⟩ := y_arr (hgw _ ar_int)
  obtain ⟨c10, a10, b10⟩ := y_arr (hgw _ ar_long)
  obtain ⟨c11, a11, b11⟩ := y_arr (hgw _ ar_boolean)
  obtain ⟨c12, a12, b12⟩ := y_arq (hts _ y_ov4)
  obtain ⟨c13, a13, b13⟩ := y_arq (hts _ y_ov6)
  refine ⟨(s.heap.size, (fun c => (hcl c).choose, fun c => (hcl c).choose_spec.choose), fun t => if t = 9 then c9 else if t = 10 then c10 else if t = 11 then c11 else if t = 12 then c12 else c13), rfl, ⟨?_, ?_⟩, fun w hw => va_Nw.of (z_nw_tab hw) (hts w (List.mem_filter.mp hw).1), va_AO.of (hts _ y_ov4), va_AO.of (hts _ y_ov6)⟩
  · intro c q hq
    have hc : c < 9 := (List.getElem?_eq_some_iff.mp hq).1
    have h1 := (z_clok c hc).1
    rw [hq] at h1
    cases h1
    exact (hcl c).choose_spec.choose_spec hc
  · intro k q hq
    have hk : k < 5 := (List.getElem?_eq_some_iff.mp hq).1
    obtain rfl | rfl | rfl | rfl | rfl : k = 0 ∨ k = 1 ∨ k = 2 ∨ k = 3 ∨ k = 4 := by omega
    · cases hq; exact ⟨a9, b9⟩
    · cases hq; exact ⟨a10, b10⟩
    · cases hq; exact ⟨a11, b11⟩
    · cases hq; exact ⟨a12, b12⟩
    · cases hq; exact ⟨a13, b13⟩
section YL
variable {p : Program} {l : Launch} {e : Env} {s : State} {m : MethodId} {below : List Frame} {meth : Method} {c : Code} {b L : Nat} {xs : Nat → Int32} {G : zG} {h : zH} {H : Heap} {locs : List Loc} {cells slots pc i n : Nat} {ls : Array Slot} {st rest : List Value} {ν : zM} {lv' mc' ms' : Nat} {Q' : Option zV → zH → Prop} {av : List zV} {Z : State → Prop}
theorem y_callV {c0 a : Nat} (C0 : lw_At p s m meth c b L xs) (hG : G.1 = s.heap.size) (hKn : z_Kn G s) (hd : decode code pc = .ok (.invokevirtual i, 3)) (cv : z_CV RL i ν n c0) (hsp : z_Sp l G ν lv' mc' ms' (vR a :: av) h Q') (hka : (gK h a).1 = c0) (hlv0 : lv' ≤ 2000) (hav : av.length = n) (k1 : cells + mc' ≤ 600000) (k2 : slots + ms' ≤ 7302249) (hR : z_Rel G h H) (hS : va_S (fun q => G.1 ≤ q) s.heap H locs) (hls : ls.size = 4) (hst : st = (av.map (z_mv G.1)).reverse ++ .ref (G.1 + a) :: rest) (hr : (rest.map fun v => v.category).sum ≤ 8)
    (kk : ∀ (r : Option zV) (h' : zH) (H1 : Heap) (locs1 : List Loc), Q' r h' → z_Rel G h' H1 → va_S (fun q => G.1 ≤ q) s.heap H1 locs1 → W p l e room_1 s m #[Value.ref b] below meth c H1 locs1 (cells + mc') (slots + ms') Z (F0 m (pc + 3) ls ((r.map (z_mv G.1)).toList ++ rest))) : W p l e room_1 s m #[Value.ref b] below meth c H locs cells slots Z (F0 m pc ls st) := by
  subst hst
  obtain ⟨hx, hb, hrt, hml, hown, hts0, hX, hbl, hlocks, hgv⟩ := C0
  have hts : ∀ w ∈ z_gw, w.before #[Value.ref b] s = true := fun w hw => hts0 w (List.mem_filter.mp hw).1
  obtain ⟨⟨w1, w2, w3, w4, w5⟩, w6, w7, w8, w9⟩ := cv
  have hlt := z_lt hR hka (by omega)
  have hP := z_at (H := H) (z_cE_o (b := G.1) (ac := G.2.2) hka w8) hlt
  refine z_cont (va_runV (As := av.map (z_mv G.1)) (rest := rest) (b := G.1 + a) (C := ν.1.cls) ⟨hx, hb, hml, hown, hts⟩ hsp ⟨callB_of n hts (z_goodc hts w2) rfl rfl rfl (hts _ w3) (hts _ w1) w4 ⟨?_, ?_⟩, hts _ w6, hts _ w7⟩ ⟨z_blind, ?_, fun U hU hW => ⟨rfl, by rw [hU]; exact hR, hKn.warm hW, by rw [hU, hR.2.1]; omega⟩⟩ rfl (by rw [List.length_map]; exact hav) hls rfl (lv_room hr) hd ⟨k1, k2⟩) hS kk
  · show lv' + 1 ≤ 2048
    omega
  · show 8 + (ν.2.2.1 + 11) + 40 * lv' ≤ 84000
    omega
  · have := va_recv hKn.1 hR.1 (z_clok c0 w8).1 hP
    rw [← w9]
    exact this
theorem y_callI {a : Nat} (C0 : lw_At p s m meth c b L xs) (hG : G.1 = s.heap.size) (hKn : z_Kn G s) (hd : decode code pc = .ok (.invokespecial i, 3)) (cv : z_CI RL i ν n) (hsp : z_Sp l G ν lv' mc' ms' (vR a :: av) h Q') (hlv0 : lv' ≤ 2000) (hav : av.length = n) (k1 : cells + mc' ≤ 600000) (k2 : slots + ms' ≤ 7302249) (hR : z_Rel G h H) (hS : va_S (fun q => G.1 ≤ q) s.heap H locs) (hls : ls.size = 4) (hst : st = (av.map (z_mv G.1)).reverse ++ .ref (G.1 + a) :: rest) (hr : (rest.map fun v => v.category).sum ≤ 8)
    (kk : ∀ (r : Option zV) (h' : zH) (H1 : Heap) (locs1 : List Loc), Q' r h' → z_Rel G h' H1 → va_S (fun q => G.1 ≤ q) s.heap H1 locs1 → W p l e room_1 s m #[Value.ref b] below meth c H1 locs1 (cells + mc') (slots + ms') Z (F0 m (pc + 3) ls ((r.map (z_mv G.1)).toList ++ rest))) : W p l e room_1 s m #[Value.ref b] below meth c H locs cells slots Z (F0 m pc ls st) := by
  subst hst
  obtain ⟨hx, hb, hrt, hml, hown, hts0, hX, hbl, hlocks, hgv⟩ := C0
  have hts : ∀ w ∈ z_gw, w.before #[Value.ref b] s = true := fun w hw => hts0 w (List.mem_filter.mp hw).1
  obtain ⟨⟨w1, w2, w3, w4, w5⟩, w6, w7, w8⟩ := cv
  refine z_cont (va_runI (As := av.map (z_mv G.1)) (rest := rest) (b := G.1 + a) (ws := z_wo ν) ⟨hx, hb, hml, hown, hts⟩ hsp ⟨callB_of n hts (z_goodc hts w2) (by rw [← w8]; rfl) rfl rfl (hts _ w3) (hts _ w1) w4 ⟨?_, ?_⟩, w7, hts _ w6⟩ ⟨z_blind, fun U hU hW => ⟨rfl, by rw [hU]; exact hR, hKn.warm hW, by rw [hU, hR.2.1]; omega⟩⟩ rfl (by rw [List.length_map]; exact hav) hls rfl (lv_room hr) hd ⟨k1, k2⟩) hS kk
  · show lv' + 1 ≤ 2048
    omega
  · show 8 + (ν.2.2.1 + 11) + 40 * lv' ≤ 84000
    omega
theorem y_new {c0 : Nat} (C0 : lw_At p s m meth c b L xs) (hKn : z_Kn G s) (hd : decode code pc = .ok (.new i, 3)) (hc0 : c0 < 9) (hw1 : Cond.classLink RL i (z_cl c0).1 ∈ z_gw) (hw3 : Cond.initialized (z_cl c0).1 ∈ z_gw) (k1 : cells + 1 ≤ 600000) (k2 : slots + z_nf c0 ≤ 7302249) (hR : z_Rel G h H) (hS : va_S (fun q => G.1 ≤ q) s.heap H locs)
    (kk : ∀ (H1 : Heap), z_Rel G (nC h (c0, 0)) H1 → va_S (fun q => G.1 ≤ q) s.heap H1 locs → W p l e room_1 s m #[Value.ref b] below meth c H1 locs (cells + 1) (slots + z_nf c0) Z (F0 m (pc + 3) ls (.ref (G.1 + gS h) :: st))) : W p l e room_1 s m #[Value.ref b] below meth c H locs cells slots Z (F0 m pc ls st) := by
  obtain ⟨hx, hb, hrt, hml, hown, hts0, hX, hbl, hlocks, hgv⟩ := C0
  have hts : ∀ w ∈ z_gw, w.before #[Value.ref b] s = true := fun w hw => hts0 w (List.mem_filter.mp hw).1
  obtain ⟨q1, q2, q3, q4, q5⟩ := z_clok c0 hc0
  have hkn := hKn.1
  have hKn1 := hkn.1 c0 _ q1
  refine W.newcK hx hb hown (hts _ hw1) (hts _ (y_nw c0 hc0)) (hts _ hw3) rfl hd k1 k2 hKn1.2.1 hR.2.1 fun H1 kC hkC e1 z1 o1 => ?_
  have z1 : H1.size = H.size + 1 := by rw [z1, hR.2.1]
  have o1 : ∀ q, q < H.size → H1[q]? = H[q]? := by rw [hR.2.1]; exact o1
  have hka : (gK (nC h (c0, 0)) (gS h)).1 = c0 := by simp [gK, nC]
  refine kk H1 (hR.push (z_cE_o hka hc0) ⟨_, q1, (u_born (z_ty c0) hts q2 hKn1 hkC e1 q3).to ?_⟩ z1 o1) (z_S_push hS z1 o1)
  intro j hj
  have hj' : j < z_nf c0 := by rw [← q5]; exact hj
  have hg : vp_V (z_fs G.1 (nC h (c0, 0)) (gS h) c0) j = z_fv G.1 (nC h (c0, 0)) (gS h) j (z_ty c0 j) := by
    simp [vp_V, List.getD, z_fs_get hj']
  rw [hg]
  have hI : gI (nC h (c0, 0)) (gS h) j = 0 := by simp [gI, nC]
  have hLo : gL (nC h (c0, 0)) (gS h) j = 0 := by simp [gL, nC]
  have hRe : gR (nC h (c0, 0)) (gS h) j = none := by simp [gR, nC]
  have hex : z_ty c0 j = .int ∨ z_ty c0 j = .boolean ∨ z_ty c0 j = .long ∨ (∃ n, z_ty c0 j = .object n) ∨ ∃ t, z_ty c0 j = .array t := by
    have hall : ∀ c, c < 9 → ∀ j, j < z_nf c → (match z_ty c j with | .int => true | .boolean => true | .long => true | .object _ => true | .array _ => true | _ => false) = true := by decide +kernel
    have := hall c0 hc0 j hj'
    revert this
    cases z_ty c0 j <;> simp
  rcases hex with q | q | q | ⟨n, q⟩ | ⟨t, q⟩ <;> rw [q] <;> simp [z_fv, hI, hLo, hRe, defaultValue, va_rf] <;> rfl
/-- a place of the script: script[i + j] -/
theorem y_ld {i j : Nat} {k : Int} {v : Int32} (C0 : lw_At p s m meth c b L xs) (hL : L ≤ 1536) (hG : G.1 = s.heap.size) (hS : va_S (fun q => G.1 ≤ q) s.heap H locs) (hl0 : ls[0]? = some (.val (.ref b))) (hl3 : ls[3]? = some (.val (.int (nI i)))) (hv : Int32.ofInt k = v) (hj : v = nI j) (hlt : i + j < L) (hd0 : decode code pc = .ok (.aload_n 0, 1)) (hd1 : decode code (pc + 1) = .ok (.iload_n 3, 1)) (hd2 : decode code (pc + 1 + 1) = .ok (.iconst k, 1)) (hd3 : decode code (pc + 1 + 1 + 1) = .ok (.iadd, 1)) (hd4 : decode code (pc + 1 + 1 + 1 + 1) = .ok (.iaload, 1))
    (kk : W p l e room_1 s m #[Value.ref b] below meth c H locs cells slots Z (F0 m (pc + 1 + 1 + 1 + 1 + 1) ls (.int (xs (i + j)) :: st))) : W p l e room_1 s m #[Value.ref b] below meth c H locs cells slots Z (F0 m pc ls st) := by
  obtain ⟨hx, hb, hrt, hml, hown, hts0, hX, hbl, hlocks, hgv⟩ := C0
  have hbA : ¬ (fun q : Nat => G.1 ≤ q) b := by show ¬ G.1 ≤ b; omega
  refine lv_aload_n hx hb hd0 rfl hl0 ?_
  refine lv_iload_n hx hb hd1 rfl hl3 ?_
  refine lv_iconst (v := v) hx hb hd2 hv ?_
  refine lv_iadd hx hb hd3 ?_
  rw [hj, nI_add]
  refine va_sld hx hb hX hbl hbA hS (vp_in_nI hlt (by omega)) hd4 ?_
  rw [nI_clamp (by omega)]
  exact kk
end YL
theorem y_i (b : Nat) (x : Int32) : z_mv b (vI x.toInt) = .int x := by
  show Value.int (Int32.ofInt x.toInt) = _
  rw [z_oI]
theorem MI.gx {h h' : zH} {s : zS} (f : Gx h h') (hg : 109 ≤ gS h) (hM : MI h s) : MI h' s := by
  have q : ∀ a, 93 ≤ a → a ≤ 108 → gK h' a = gK h a ∧ gI h' a = gI h a ∧ gR h' a = gR h a := fun a h1 h2 => by
    obtain ⟨x1, x2, x3, x4⟩ := f.2 a h1 (by omega)
    exact ⟨x1, x2, x4⟩
  obtain ⟨a1, a2, a3, a4, a5⟩ := hM
  refine ⟨?_, by rw [(q 94 (by omega) (by omega)).2.1]; exact a2, a3.o (by rw [(q 93 (by omega) (by omega)).2.1]) (q 95 (by omega) (by omega)).2.1, ?_, a5⟩
  · unfold ShM
    rw [(q 93 (by omega) (by omega)).1, (q 94 (by omega) (by omega)).1, (q 95 (by omega) (by omega)).1, (q 96 (by omega) (by omega)).1, (q 97 (by omega) (by omega)).1, (q 98 (by omega) (by omega)).1, (q 99 (by omega) (by omega)).1, (q 100 (by omega) (by omega)).1, (q 101 (by omega) (by omega)).1, (q 102 (by omega) (by omega)).1, (q 103 (by omega) (by omega)).1, (q 104 (by omega) (by omega)).1, (q 105 (by omega) (by omega)).1, (q 106 (by omega) (by omega)).1, (q 107 (by omega) (by omega)).1, (q 108 (by omega) (by omega)).1, (q 93 (by omega) (by omega)).2.2]
    exact a1
  · unfold MTx
    rw [(q 93 (by omega) (by omega)).2.1, (q 96 (by omega) (by omega)).2.1]
    exact a4
theorem CI.mf {h h' : zH} {s : zS} (f : MF h h') (hC : CI h s) : CI h' s := hC.mod f.1 (fun c q => q)
