/-! the law's cases -/
section YC
variable {p : Program} {l : Launch} {e : Env} {s : State} {m : MethodId} {below : List Frame} {meth : Method} {c : Code} {b L : Nat} {xs : Nat → Int32} {G : zG} {h : zH} {H : Heap} {locs : List Loc} {cells slots pc i n : Nat} {ls : Array Slot} {st : List Value} {ν : zM} {mc' ms' : Nat} {Q' : Option zV → zH → Prop} {av : List zV} {Z : State → Prop} {S S' : zS} {x : Int}
/-- a call of the class -/
theorem y_c1 (C0 : lw_At p s m meth c b L xs) (hG : G.1 = s.heap.size) (hKn : z_Kn G s) (hC : CI h S) (hM : MI h S) (hd : decode code pc = .ok (.invokevirtual i, 3)) (cv : z_CV RL i ν n 7) (hsp : z_Sp l G ν 20 mc' ms' (vR 0 :: av) h Q') (hqq : ∀ r h', Q' r h' → r = some (vI x) ∧ CI h' S' ∧ Gx h h') (hm1 : mc' ≤ 7) (hm2 : ms' ≤ 92) (hav : av.length = n) (k1 : cells + 7 ≤ 600000) (k2 : slots + 92 ≤ 7302249) (hR : z_Rel G h H) (hS : va_S (fun q => G.1 ≤ q) s.heap H locs) (hls : ls.size = 4) (hst : st = (av.map (z_mv G.1)).reverse ++ [.ref (G.1 + 0)])
    (kk : ∀ (h' : zH) (H1 : Heap) (locs1 : List Loc), CI h' S' → MI h' S → z_Rel G h' H1 → va_S (fun q => G.1 ≤ q) s.heap H1 locs1 → W p l e room_1 s m #[Value.ref b] below meth c H1 locs1 (cells + 7) (slots + 92) Z (F0 m (pc + 3) ls [.int (Int32.ofInt x)])) : W p l e room_1 s m #[Value.ref b] below meth c H locs cells slots Z (F0 m pc ls st) := by
  refine y_callV (rest := []) C0 hG hKn hd cv hsp hC.1.1 (by omega) hav (by omega) (by omega) hR hS hls hst (by simp) (fun r h' H1 locs1 hq hR1 hS1 => ?_)
  obtain ⟨rfl, hC1, hg1⟩ := hqq r h' hq
  refine W.widen (k := cells + 7) (n := slots + 92) (by omega) (by omega) ?_
  exact kk h' H1 locs1 hC1 (hM.gx hg1 hC.2.2.2.2.2.2) hR1 hS1
/-- a call of the reference -/
theorem y_c2 {v0 : Value} (C0 : lw_At p s m meth c b L xs) (hG : G.1 = s.heap.size) (hKn : z_Kn G s) (hC : CI h S') (hM : MI h S) (hd : decode code pc = .ok (.invokevirtual i, 3)) (cv : z_CV RL i ν n 8) (hsp : z_Sp l G ν 20 0 0 (vR 93 :: av) h Q') (hqq : ∀ r h', Q' r h' → r = some (vI x) ∧ MI h' S' ∧ MF h h') (hav : av.length = n) (k1 : cells ≤ 600000) (k2 : slots ≤ 7302249) (hR : z_Rel G h H) (hS : va_S (fun q => G.1 ≤ q) s.heap H locs) (hls : ls.size = 4) (hst : st = (av.map (z_mv G.1)).reverse ++ [.ref (G.1 + 93), v0]) (hcat : v0.category = 1)
    (kk : ∀ (h' : zH) (H1 : Heap) (locs1 : List Loc), CI h' S' → MI h' S' → z_Rel G h' H1 → va_S (fun q => G.1 ≤ q) s.heap H1 locs1 → W p l e room_1 s m #[Value.ref b] below meth c H1 locs1 cells slots Z (F0 m (pc + 3) ls [.int (Int32.ofInt x), v0])) : W p l e room_1 s m #[Value.ref b] below meth c H locs cells slots Z (F0 m pc ls st) := by
  refine y_callV (rest := [v0]) C0 hG hKn hd cv hsp hM.1.1 (by omega) hav (by omega) (by omega) hR hS hls hst (by simp [hcat]) (fun r h' H1 locs1 hq hR1 hS1 => ?_)
  obtain ⟨rfl, hM1, hf1⟩ := hqq r h' hq
  exact kk h' H1 locs1 (hC.mf hf1) hM1 hR1 hS1
/-- script[i + j] != 0, as 0 or 1 -/
theorem y_nz {x : Int32} {pc1 pc2 : Nat} {o1 o2 : Int} (C0 : lw_At p s m meth c b L xs) (hd0 : decode code pc = .ok (.ifCond .eq o1, 3)) (ht : (pc : Int) + o1 = (pc1 : Int)) (hd1 : decode code (pc + 3) = .ok (.iconst 1, 1)) (hd2 : decode code (pc + 3 + 1) = .ok (.goto o2, 3)) (ht2 : ((pc + 3 + 1 : Nat) : Int) + o2 = (pc2 : Int)) (hd3 : decode code pc1 = .ok (.iconst 0, 1)) (hp : pc1 + 1 = pc2)
    (kk : ∀ z : Int, (z = 0 ∨ z = 1) → z = (if x = 0 then 0 else 1) → W p l e room_1 s m #[Value.ref b] below meth c H locs cells slots Z (F0 m pc2 ls (.int (Int32.ofInt z) :: st))) : W p l e room_1 s m #[Value.ref b] below meth c H locs cells slots Z (F0 m pc ls (.int x :: st)) := by
  obtain ⟨hx, hb, hrt, hml, hown, hts0, hX, hbl, hlocks, hgv⟩ := C0
  refine lv_if_eq (tgt := pc1) hx hb hd0 ht (fun q => ?_) (fun q => ?_)
  · refine lv_iconst (v := Int32.ofInt 0) hx hb hd3 rfl ?_
    rw [hp]
    exact kk 0 (Or.inl rfl) (by rw [if_pos q])
  · refine lv_iconst (v := Int32.ofInt 1) hx hb hd1 rfl ?_
    refine lv_goto (tgt := pc2) hx hb hd2 ht2 ?_
    exact kk 1 (Or.inr rfl) (by rw [if_neg q])
end YC
/-- the law at a place, both sides in the state S -/
def yJ (p : Program) (l : Launch) (e : Env) (s : State) (m : MethodId) (below : List Frame) (meth : Method) (c : Code) (b : Nat) (G : zG) (S : zS) (cells slots pc : Nat) (ls : Array Slot) : Prop := ∀ (h : zH) (H : Heap) (locs : List Loc), CI h S → MI h S → z_Rel G h H → va_S (fun q => G.1 ≤ q) s.heap H locs → W p l e room_1 s m #[Value.ref b] below meth c H locs cells slots (lw_Z below #[Value.ref b] s) (F0 m pc ls [])
/-- where the law stands in its script -/
def yA (p : Program) (s : State) (m : MethodId) (meth : Method) (c : Code) (b L : Nat) (xs : Nat → Int32) (G : zG) (i : Nat) (cells slots : Nat) (ls : Array Slot) : Prop := lw_At p s m meth c b L xs ∧ L ≤ 1536 ∧ G.1 = s.heap.size ∧ z_Kn G s ∧ lv_has ls 4 [(0, .ref b), (1, .ref (G.1 + 0)), (2, .ref (G.1 + 93)), (3, .int (nI i))] ∧ i + 3 ≤ L ∧ cells + 7 ≤ 600000 ∧ slots + 92 ≤ 7302249
set_option maxRecDepth 4000 in
theorem lc_publish {p : Program} {l : Launch} {e : Env} {s : State} {m : MethodId} {below : List Frame} {meth : Method} {c : Code} {b L : Nat} {xs : Nat → Int32} {G : zG} {i cells slots : Nat} {ls : Array Slot} {S : zS} (Y : yA p s m meth c b L xs G i cells slots ls) (K : ∀ S', yJ p l e s m below meth c b G S' (cells + 7) (slots + 92) 806 ls) : yJ p l e s m below meth c b G S cells slots 148 ls := by
  obtain ⟨C0, hL, hG, hKn, hl, hi, k1, k2⟩ := Y
  have hx := C0.1
  have hb := C0.2.1
  intro h H locs hC hM hR hS
  refine lv_aload_n hx hb (by decide +kernel : decode code 148 = .ok (.aload_n 1, 1)) rfl (lv_at hl 1 rfl) ?_
  refine y_ld (j := 1) (k := 1) (v := 1) C0 hL hG hS (lv_at hl 0 rfl) (lv_at hl 3 rfl) (by decide) (by decide) (by omega) (by decide +kernel) (by decide +kernel) (by decide +kernel) (by decide +kernel) (by decide +kernel) ?_
  refine y_ld (j := 2) (k := 2) (v := 2) C0 hL hG hS (lv_at hl 0 rfl) (lv_at hl 3 rfl) (by decide) (by decide) (by omega) (by decide +kernel) (by decide +kernel) (by decide +kernel) (by decide +kernel) (by decide +kernel) ?_
  refine y_c1 (x := (fPublish S (xs (i + 1)).toInt (xs (i + 2)).toInt).1) (S' := (fPublish S (xs (i + 1)).toInt (xs (i + 2)).toInt).2) (av := [vI (xs (i + 1)).toInt, vI (xs (i + 2)).toInt]) C0 hG hKn hC hM (by decide +kernel) cv_L_13 (sp_publish l G h S (xs (i + 1)).toInt (xs (i + 2)).toInt hC (InR_of _) (InR_of _) 20 (by omega)) (fun r h' q => q) (by omega) (by omega) rfl k1 k2 hR hS hl.1 (by simp [y_i]) ?_
  intro h1 H1 locs1 hC1 hM1 hR1 hS1
  refine lv_aload_n hx hb (by decide +kernel : decode code 162 = .ok (.aload_n 2, 1)) rfl (lv_at hl 2 rfl) ?_
  refine y_ld (j := 1) (k := 1) (v := 1) C0 hL hG hS1 (lv_at hl 0 rfl) (lv_at hl 3 rfl) (by decide) (by decide) (by omega) (by decide +kernel) (by decide +kernel) (by decide +kernel) (by decide +kernel) (by decide +kernel) ?_
  refine y_ld (j := 2) (k := 2) (v := 2) C0 hL hG hS1 (lv_at hl 0 rfl) (lv_at hl 3 rfl) (by decide) (by decide) (by omega) (by decide +kernel) (by decide +kernel) (by decide +kernel) (by decide +kernel) (by decide +kernel) ?_
  refine y_c2 (v0 := .int (Int32.ofInt ((fPublish S (xs (i + 1)).toInt (xs (i + 2)).toInt).1))) (x := (fPublish S (xs (i + 1)).toInt (xs (i + 2)).toInt).1) (S := S) (S' := (fPublish S (xs (i + 1)).toInt (xs (i + 2)).toInt).2) (av := [vI (xs (i + 1)).toInt, vI (xs (i + 2)).toInt]) C0 hG hKn hC1 hM1 (by decide +kernel) cv_L_17 (sm_publish l G h1 S (xs (i + 1)).toInt (xs (i + 2)).toInt hM1 (InR_of _) (InR_of _) 20 (by omega)) (fun r h' q => q) rfl (by omega) (by omega) hR1 hS1 hl.1 (by simp [y_i]) rfl ?_
  intro h2 H2 locs2 hC2 hM2 hR2 hS2
  refine lv_icmp_eq (tgt := 806) hx hb (by decide +kernel : decode code 176 = .ok (.if_icmp .eq 630, 3)) (by decide) (fun _ => ?_) (fun q => absurd rfl q)
  exact K _ h2 H2 locs2 hC2 hM2 hR2 hS2
set_option maxRecDepth 4000 in
theorem lc_yank {p : Program} {l : Launch} {e : Env} {s : State} {m : MethodId} {below : List Frame} {meth : Method} {c : Code} {b L : Nat} {xs : Nat → Int32} {G : zG} {i cells slots : Nat} {ls : Array Slot} {S : zS} (Y : yA p s m meth c b L xs G i cells slots ls) (K : ∀ S', yJ p l e s m below meth c b G S' (cells + 7) (slots + 92) 806 ls) : yJ p l e s m below meth c b G S cells slots 181 ls := by
  obtain ⟨C0, hL, hG, hKn, hl, hi, k1, k2⟩ := Y
  have hx := C0.1
  have hb := C0.2.1
  intro h H locs hC hM hR hS
  refine lv_aload_n hx hb (by decide +kernel : decode code 181 = .ok (.aload_n 1, 1)) rfl (lv_at hl 1 rfl) ?_
  refine y_ld (j := 1) (k := 1) (v := 1) C0 hL hG hS (lv_at hl 0 rfl) (lv_at hl 3 rfl) (by decide) (by decide) (by omega) (by decide +kernel) (by decide +kernel) (by decide +kernel) (by decide +kernel) (by decide +kernel) ?_
  refine y_ld (j := 2) (k := 2) (v := 2) C0 hL hG hS (lv_at hl 0 rfl) (lv_at hl 3 rfl) (by decide) (by decide) (by omega) (by decide +kernel) (by decide +kernel) (by decide +kernel) (by decide +kernel) (by decide +kernel) ?_
  refine y_c1 (x := (fYank S (xs (i + 1)).toInt (xs (i + 2)).toInt).1) (S' := (fYank S (xs (i + 1)).toInt (xs (i + 2)).toInt).2) (av := [vI (xs (i + 1)).toInt, vI (xs (i + 2)).toInt]) C0 hG hKn hC hM (by decide +kernel) cv_L_18 (sp_yank l G h S (xs (i + 1)).toInt (xs (i + 2)).toInt hC (InR_of _) (InR_of _) 20 (by omega)) (fun r h' q => q) (by omega) (by omega) rfl k1 k2 hR hS hl.1 (by simp [y_i]) ?_
  intro h1 H1 locs1 hC1 hM1 hR1 hS1
  refine lv_aload_n hx hb (by decide +kernel : decode code 195 = .ok (.aload_n 2, 1)) rfl (lv_at hl 2 rfl) ?_
  refine y_ld (j := 1) (k := 1) (v := 1) C0 hL hG hS1 (lv_at hl 0 rfl) (lv_at hl 3 rfl) (by decide) (by decide) (by omega) (by decide +kernel) (by decide +kernel) (by decide +kernel) (by decide +kernel) (by decide +kernel) ?_
  refine y_ld (j := 2) (k := 2) (v := 2) C0 hL hG hS1 (lv_at hl 0 rfl) (lv_at hl 3 rfl) (by decide) (by decide) (by omega) (by decide +kernel) (by decide +kernel) (by decide +kernel) (by decide +kernel) (by decide +kernel) ?_
  refine y_c2 (v0 := .int (Int32.ofInt ((fYank S (xs (i + 1)).toInt (xs (i + 2)).toInt).1))) (x := (fYank S (xs (i + 1)).toInt (xs (i + 2)).toInt).1) (S := S) (S' := (fYank S (xs (i + 1)).toInt (xs (i + 2)).toInt).2) (av := [vI (xs (i + 1)).toInt, vI (xs (i + 2)).toInt]) C0 hG hKn hC1 hM1 (by decide +kernel) cv_L_21 (sm_yank l G h1 S (xs (i + 1)).toInt (xs (i + 2)).toInt hM1 (InR_of _) (InR_of _) 20 (by omega)) (fun r h' q => q) rfl (by omega) (by omega) hR1 hS1 hl.1 (by simp [y_i]) rfl ?_
  intro h2 H2 locs2 hC2 hM2 hR2 hS2
  refine lv_icmp_eq (tgt := 806) hx hb (by decide +kernel : decode code 209 = .ok (.if_icmp .eq 597, 3)) (by decide) (fun _ => ?_) (fun q => absurd rfl q)
  exact K _ h2 H2 locs2 hC2 hM2 hR2 hS2
set_option maxRecDepth 4000 in
theorem lc_version {p : Program} {l : Launch} {e : Env} {s : State} {m : MethodId} {below : List Frame} {meth : Method} {c : Code} {b L : Nat} {xs : Nat → Int32} {G : zG} {i cells slots : Nat} {ls : Array Slot} {S : zS} (Y : yA p s m meth c b L xs G i cells slots ls) (K : ∀ S', yJ p l e s m below meth c b G S' (cells + 7) (slots + 92) 806 ls) : yJ p l e s m below meth c b G S cells slots 214 ls := by
  obtain ⟨C0, hL, hG, hKn, hl, hi, k1, k2⟩ := Y
  have hx := C0.1
  have hb := C0.2.1
  intro h H locs hC hM hR hS
  refine lv_aload_n hx hb (by decide +kernel : decode code 214 = .ok (.aload_n 1, 1)) rfl (lv_at hl 1 rfl) ?_
  refine y_ld (j := 1) (k := 1) (v := 1) C0 hL hG hS (lv_at hl 0 rfl) (lv_at hl 3 rfl) (by decide) (by decide) (by omega) (by decide +kernel) (by decide +kernel) (by decide +kernel) (by decide +kernel) (by decide +kernel) ?_
  refine y_ld (j := 2) (k := 2) (v := 2) C0 hL hG hS (lv_at hl 0 rfl) (lv_at hl 3 rfl) (by decide) (by decide) (by omega) (by decide +kernel) (by decide +kernel) (by decide +kernel) (by decide +kernel) (by decide +kernel) ?_
  refine y_c1 (x := ((fVersion S (xs (i + 1)).toInt (xs (i + 2)).toInt, S)).1) (S' := ((fVersion S (xs (i + 1)).toInt (xs (i + 2)).toInt, S)).2) (av := [vI (xs (i + 1)).toInt, vI (xs (i + 2)).toInt]) C0 hG hKn hC hM (by decide +kernel) cv_L_22 (sp_version l G h S (xs (i + 1)).toInt (xs (i + 2)).toInt hC (InR_of _) (InR_of _) 20 (by omega)) (fun r h' q => q) (by omega) (by omega) rfl k1 k2 hR hS hl.1 (by simp [y_i]) ?_
  intro h1 H1 locs1 hC1 hM1 hR1 hS1
  refine lv_aload_n hx hb (by decide +kernel : decode code 228 = .ok (.aload_n 2, 1)) rfl (lv_at hl 2 rfl) ?_
  refine y_ld (j := 1) (k := 1) (v := 1) C0 hL hG hS1 (lv_at hl 0 rfl) (lv_at hl 3 rfl) (by decide) (by decide) (by omega) (by decide +kernel) (by decide +kernel) (by decide +kernel) (by decide +kernel) (by decide +kernel) ?_
  refine y_ld (j := 2) (k := 2) (v := 2) C0 hL hG hS1 (lv_at hl 0 rfl) (lv_at hl 3 rfl) (by decide) (by decide) (by omega) (by decide +kernel) (by decide +kernel) (by decide +kernel) (by decide +kernel) (by decide +kernel) ?_
  refine y_c2 (v0 := .int (Int32.ofInt (((fVersion S (xs (i + 1)).toInt (xs (i + 2)).toInt, S)).1))) (x := ((fVersion S (xs (i + 1)).toInt (xs (i + 2)).toInt, S)).1) (S := S) (S' := ((fVersion S (xs (i + 1)).toInt (xs (i + 2)).toInt, S)).2) (av := [vI (xs (i + 1)).toInt, vI (xs (i + 2)).toInt]) C0 hG hKn hC1 hM1 (by decide +kernel) cv_L_25 (sm_version l G h1 S (xs (i + 1)).toInt (xs (i + 2)).toInt hM1 (InR_of _) (InR_of _) 20 (by omega)) (fun r h' q => q) rfl (by omega) (by omega) hR1 hS1 hl.1 (by simp [y_i]) rfl ?_
  intro h2 H2 locs2 hC2 hM2 hR2 hS2
  refine lv_icmp_eq (tgt := 806) hx hb (by decide +kernel : decode code 242 = .ok (.if_icmp .eq 564, 3)) (by decide) (fun _ => ?_) (fun q => absurd rfl q)
  exact K _ h2 H2 locs2 hC2 hM2 hR2 hS2
set_option maxRecDepth 4000 in
theorem lc_setFeature {p : Program} {l : Launch} {e : Env} {s : State} {m : MethodId} {below : List Frame} {meth : Method} {c : Code} {b L : Nat} {xs : Nat → Int32} {G : zG} {i cells slots : Nat} {ls : Array Slot} {S : zS} (Y : yA p s m meth c b L xs G i cells slots ls) (K : ∀ S', yJ p l e s m below meth c b G S' (cells + 7) (slots + 92) 806 ls) : yJ p l e s m below meth c b G S cells slots 247 ls := by
  obtain ⟨C0, hL, hG, hKn, hl, hi, k1, k2⟩ := Y
  have hx := C0.1
  have hb := C0.2.1
  intro h H locs hC hM hR hS
  refine lv_aload_n hx hb (by decide +kernel : decode code 247 = .ok (.aload_n 1, 1)) rfl (lv_at hl 1 rfl) ?_
  refine y_ld (j := 1) (k := 1) (v := 1) C0 hL hG hS (lv_at hl 0 rfl) (lv_at hl 3 rfl) (by decide) (by decide) (by omega) (by decide +kernel) (by decide +kernel) (by decide +kernel) (by decide +kernel) (by decide +kernel) ?_
  refine y_ld (j := 2) (k := 2) (v := 2) C0 hL hG hS (lv_at hl 0 rfl) (lv_at hl 3 rfl) (by decide) (by decide) (by omega) (by decide +kernel) (by decide +kernel) (by decide +kernel) (by decide +kernel) (by decide +kernel) ?_
  refine y_nz (o1 := 7) (o2 := 4) (pc1 := 265) (pc2 := 266) C0 (by decide +kernel) (by decide) (by decide +kernel) (by decide +kernel) (by decide) (by decide +kernel) rfl ?_
  intro z hz hze
  refine y_c1 (x := (fSetFeature S (xs (i + 1)).toInt z).1) (S' := (fSetFeature S (xs (i + 1)).toInt z).2) (av := [vI (xs (i + 1)).toInt, vI z]) C0 hG hKn hC hM (by decide +kernel) cv_L_26 (sp_setFeature l G h S (xs (i + 1)).toInt z hC (InR_of _) hz 20 (by omega)) (fun r h' q => q) (by omega) (by omega) rfl k1 k2 hR hS hl.1 (by simp [y_i]; rfl) ?_
  intro h1 H1 locs1 hC1 hM1 hR1 hS1
  refine lv_aload_n hx hb (by decide +kernel : decode code 269 = .ok (.aload_n 2, 1)) rfl (lv_at hl 2 rfl) ?_
  refine y_ld (j := 1) (k := 1) (v := 1) C0 hL hG hS1 (lv_at hl 0 rfl) (lv_at hl 3 rfl) (by decide) (by decide) (by omega) (by decide +kernel) (by decide +kernel) (by decide +kernel) (by decide +kernel) (by decide +kernel) ?_
  refine y_ld (j := 2) (k := 2) (v := 2) C0 hL hG hS1 (lv_at hl 0 rfl) (lv_at hl 3 rfl) (by decide) (by decide) (by omega) (by decide +kernel) (by decide +kernel) (by decide +kernel) (by decide +kernel) (by decide +kernel) ?_
  refine y_nz (o1 := 7) (o2 := 4) (pc1 := 287) (pc2 := 288) C0 (by decide +kernel) (by decide) (by decide +kernel) (by decide +kernel) (by decide) (by decide +kernel) rfl ?_
  intro z' hz' hze'
  rw [← hze] at hze'
  subst z'
  refine y_c2 (v0 := .int (Int32.ofInt ((fSetFeature S (xs (i + 1)).toInt z).1))) (x := (fSetFeature S (xs (i + 1)).toInt z).1) (S := S) (S' := (fSetFeature S (xs (i + 1)).toInt z).2) (av := [vI (xs (i + 1)).toInt, vI z]) C0 hG hKn hC1 hM1 (by decide +kernel) cv_L_30 (sm_setFeature l G h1 S (xs (i + 1)).toInt z hM1 (InR_of _) hz 20 (by omega)) (fun r h' q => q) rfl (by omega) (by omega) hR1 hS1 hl.1 (by simp [y_i]; rfl) rfl ?_
  intro h2 H2 locs2 hC2 hM2 hR2 hS2
  refine lv_icmp_eq (tgt := 806) hx hb (by decide +kernel : decode code 291 = .ok (.if_icmp .eq 515, 3)) (by decide) (fun _ => ?_) (fun q => absurd rfl q)
  exact K _ h2 H2 locs2 hC2 hM2 hR2 hS2
set_option maxRecDepth 4000 in
theorem lc_setLock {p : Program} {l : Launch} {e : Env} {s : State} {m : MethodId} {below : List Frame} {meth : Method} {c : Code} {b L : Nat} {xs : Nat → Int32} {G : zG} {i cells slots : Nat} {ls : Array Slot} {S : zS} (Y : yA p s m meth c b L xs G i cells slots ls) (K : ∀ S', yJ p l e s m below meth c b G S' (cells + 7) (slots + 92) 806 ls) : yJ p l e s m below meth c b G S cells slots 296 ls := by
  obtain ⟨C0, hL, hG, hKn, hl, hi, k1, k2⟩ := Y
  have hx := C0.1
  have hb := C0.2.1
  intro h H locs hC hM hR hS
  refine lv_aload_n hx hb (by decide +kernel : decode code 296 = .ok (.aload_n 1, 1)) rfl (lv_at hl 1 rfl) ?_
  refine y_ld (j := 1) (k := 1) (v := 1) C0 hL hG hS (lv_at hl 0 rfl) (lv_at hl 3 rfl) (by decide) (by decide) (by omega) (by decide +kernel) (by decide +kernel) (by decide +kernel) (by decide +kernel) (by decide +kernel) ?_
  refine y_ld (j := 2) (k := 2) (v := 2) C0 hL hG hS (lv_at hl 0 rfl) (lv_at hl 3 rfl) (by decide) (by decide) (by omega) (by decide +kernel) (by decide +kernel) (by decide +kernel) (by decide +kernel) (by decide +kernel) ?_
  refine y_c1 (x := (fSetLock S (xs (i + 1)).toInt (xs (i + 2)).toInt).1) (S' := (fSetLock S (xs (i + 1)).toInt (xs (i + 2)).toInt).2) (av := [vI (xs (i + 1)).toInt, vI (xs (i + 2)).toInt]) C0 hG hKn hC hM (by decide +kernel) cv_L_31 (sp_setLock l G h S (xs (i + 1)).toInt (xs (i + 2)).toInt hC (InR_of _) (InR_of _) 20 (by omega)) (fun r h' q => q) (by omega) (by omega) rfl k1 k2 hR hS hl.1 (by simp [y_i]) ?_
  intro h1 H1 locs1 hC1 hM1 hR1 hS1
  refine lv_aload_n hx hb (by decide +kernel : decode code 310 = .ok (.aload_n 2, 1)) rfl (lv_at hl 2 rfl) ?_
  refine y_ld (j := 1) (k := 1) (v := 1) C0 hL hG hS1 (lv_at hl 0 rfl) (lv_at hl 3 rfl) (by decide) (by decide) (by omega) (by decide +kernel) (by decide +kernel) (by decide +kernel) (by decide +kernel) (by decide +kernel) ?_
  refine y_ld (j := 2) (k := 2) (v := 2) C0 hL hG hS1 (lv_at hl 0 rfl) (lv_at hl 3 rfl) (by decide) (by decide) (by omega) (by decide +kernel) (by decide +kernel) (by decide +kernel) (by decide +kernel) (by decide +kernel) ?_
  refine y_c2 (v0 := .int (Int32.ofInt ((fSetLock S (xs (i + 1)).toInt (xs (i + 2)).toInt).1))) (x := (fSetLock S (xs (i + 1)).toInt (xs (i + 2)).toInt).1) (S := S) (S' := (fSetLock S (xs (i + 1)).toInt (xs (i + 2)).toInt).2) (av := [vI (xs (i + 1)).toInt, vI (xs (i + 2)).toInt]) C0 hG hKn hC1 hM1 (by decide +kernel) cv_L_34 (sm_setLock l G h1 S (xs (i + 1)).toInt (xs (i + 2)).toInt hM1 (InR_of _) (InR_of _) 20 (by omega)) (fun r h' q => q) rfl (by omega) (by omega) hR1 hS1 hl.1 (by simp [y_i]) rfl ?_
  intro h2 H2 locs2 hC2 hM2 hR2 hS2
  refine lv_icmp_eq (tgt := 806) hx hb (by decide +kernel : decode code 324 = .ok (.if_icmp .eq 482, 3)) (by decide) (fun _ => ?_) (fun q => absurd rfl q)
  exact K _ h2 H2 locs2 hC2 hM2 hR2 hS2
set_option maxRecDepth 4000 in
theorem lc_takeLock {p : Program} {l : Launch} {e : Env} {s : State} {m : MethodId} {below : List Frame} {meth : Method} {c : Code} {b L : Nat} {xs : Nat → Int32} {G : zG} {i cells slots : Nat} {ls : Array Slot} {S : zS} (Y : yA p s m meth c b L xs G i cells slots ls) (K : ∀ S', yJ p l e s m below meth c b G S' (cells + 7) (slots + 92) 806 ls) : yJ p l e s m below meth c b G S cells slots 329 ls := by
  obtain ⟨C0, hL, hG, hKn, hl, hi, k1, k2⟩ := Y
  have hx := C0.1
  have hb := C0.2.1
  intro h H locs hC hM hR hS
  refine lv_aload_n hx hb (by decide +kernel : decode code 329 = .ok (.aload_n 1, 1)) rfl (lv_at hl 1 rfl) ?_
  refine y_c1 (x := (fTakeLock S).1) (S' := (fTakeLock S).2) (av := []) C0 hG hKn hC hM (by decide +kernel) cv_L_35 (sp_takeLock l G h S  hC  20 (by omega)) (fun r h' q => q) (by omega) (by omega) rfl k1 k2 hR hS hl.1 (rfl) ?_
  intro h1 H1 locs1 hC1 hM1 hR1 hS1
  refine lv_aload_n hx hb (by decide +kernel : decode code 333 = .ok (.aload_n 2, 1)) rfl (lv_at hl 2 rfl) ?_
  refine y_c2 (v0 := .int (Int32.ofInt ((fTakeLock S).1))) (x := (fTakeLock S).1) (S := S) (S' := (fTakeLock S).2) (av := []) C0 hG hKn hC1 hM1 (by decide +kernel) cv_L_39 (sm_takeLock l G h1 S  hM1  20 (by omega)) (fun r h' q => q) rfl (by omega) (by omega) hR1 hS1 hl.1 (rfl) rfl ?_
  intro h2 H2 locs2 hC2 hM2 hR2 hS2
  refine lv_icmp_eq (tgt := 806) hx hb (by decide +kernel : decode code 337 = .ok (.if_icmp .eq 469, 3)) (by decide) (fun _ => ?_) (fun q => absurd rfl q)
  exact K _ h2 H2 locs2 hC2 hM2 hR2 hS2
set_option maxRecDepth 4000 in
theorem lc_locked {p : Program} {l : Launch} {e : Env} {s : State} {m : MethodId} {below : List Frame} {meth : Method} {c : Code} {b L : Nat} {xs : Nat → Int32} {G : zG} {i cells slots : Nat} {ls : Array Slot} {S : zS} (Y : yA p s m meth c b L xs G i cells slots ls) (K : ∀ S', yJ p l e s m below meth c b G S' (cells + 7) (slots + 92) 806 ls) : yJ p l e s m below meth c b G S cells slots 342 ls := by
  obtain ⟨C0, hL, hG, hKn, hl, hi, k1, k2⟩ := Y
  have hx := C0.1
  have hb := C0.2.1
  intro h H locs hC hM hR hS
  refine lv_aload_n hx hb (by decide +kernel : decode code 342 = .ok (.aload_n 1, 1)) rfl (lv_at hl 1 rfl) ?_
  refine y_ld (j := 1) (k := 1) (v := 1) C0 hL hG hS (lv_at hl 0 rfl) (lv_at hl 3 rfl) (by decide) (by decide) (by omega) (by decide +kernel) (by decide +kernel) (by decide +kernel) (by decide +kernel) (by decide +kernel) ?_
  refine y_c1 (x := ((fLocked S (xs (i + 1)).toInt, S)).1) (S' := ((fLocked S (xs (i + 1)).toInt, S)).2) (av := [vI (xs (i + 1)).toInt]) C0 hG hKn hC hM (by decide +kernel) cv_L_40 (sp_locked l G h S (xs (i + 1)).toInt hC (InR_of _) 20 (by omega)) (fun r h' q => q) (by omega) (by omega) rfl k1 k2 hR hS hl.1 (by simp [y_i]) ?_
  intro h1 H1 locs1 hC1 hM1 hR1 hS1
  refine lv_aload_n hx hb (by decide +kernel : decode code 351 = .ok (.aload_n 2, 1)) rfl (lv_at hl 2 rfl) ?_
  refine y_ld (j := 1) (k := 1) (v := 1) C0 hL hG hS1 (lv_at hl 0 rfl) (lv_at hl 3 rfl) (by decide) (by decide) (by omega) (by decide +kernel) (by decide +kernel) (by decide +kernel) (by decide +kernel) (by decide +kernel) ?_
  refine y_c2 (v0 := .int (Int32.ofInt (((fLocked S (xs (i + 1)).toInt, S)).1))) (x := ((fLocked S (xs (i + 1)).toInt, S)).1) (S := S) (S' := ((fLocked S (xs (i + 1)).toInt, S)).2) (av := [vI (xs (i + 1)).toInt]) C0 hG hKn hC1 hM1 (by decide +kernel) cv_L_44 (sm_locked l G h1 S (xs (i + 1)).toInt hM1 (InR_of _) 20 (by omega)) (fun r h' q => q) rfl (by omega) (by omega) hR1 hS1 hl.1 (by simp [y_i]) rfl ?_
  intro h2 H2 locs2 hC2 hM2 hR2 hS2
  refine lv_icmp_eq (tgt := 806) hx hb (by decide +kernel : decode code 360 = .ok (.if_icmp .eq 446, 3)) (by decide) (fun _ => ?_) (fun q => absurd rfl q)
  exact K _ h2 H2 locs2 hC2 hM2 hR2 hS2
set_option maxRecDepth 4000 in
theorem lc_undo {p : Program} {l : Launch} {e : Env} {s : State} {m : MethodId} {below : List Frame} {meth : Method} {c : Code} {b L : Nat} {xs : Nat → Int32} {G : zG} {i cells slots : Nat} {ls : Array Slot} {S : zS} (Y : yA p s m meth c b L xs G i cells slots ls) (K : ∀ S', yJ p l e s m below meth c b G S' (cells + 7) (slots + 92) 806 ls) : yJ p l e s m below meth c b G S cells slots 365 ls := by
  obtain ⟨C0, hL, hG, hKn, hl, hi, k1, k2⟩ := Y
  have hx := C0.1
  have hb := C0.2.1
  intro h H locs hC hM hR hS
  refine lv_aload_n hx hb (by decide +kernel : decode code 365 = .ok (.aload_n 1, 1)) rfl (lv_at hl 1 rfl) ?_
  refine y_c1 (x := (fUndo S).1) (S' := (fUndo S).2) (av := []) C0 hG hKn hC hM (by decide +kernel) cv_L_45 (sp_undo l G h S  hC  20 (by omega)) (fun r h' q => q) (by omega) (by omega) rfl k1 k2 hR hS hl.1 (rfl) ?_
  intro h1 H1 locs1 hC1 hM1 hR1 hS1
  refine lv_aload_n hx hb (by decide +kernel : decode code 369 = .ok (.aload_n 2, 1)) rfl (lv_at hl 2 rfl) ?_
  refine y_c2 (v0 := .int (Int32.ofInt ((fUndo S).1))) (x := (fUndo S).1) (S := S) (S' := (fUndo S).2) (av := []) C0 hG hKn hC1 hM1 (by decide +kernel) cv_L_48 (sm_undo l G h1 S  hM1  20 (by omega)) (fun r h' q => q) rfl (by omega) (by omega) hR1 hS1 hl.1 (rfl) rfl ?_
  intro h2 H2 locs2 hC2 hM2 hR2 hS2
  refine lv_icmp_eq (tgt := 806) hx hb (by decide +kernel : decode code 373 = .ok (.if_icmp .eq 433, 3)) (by decide) (fun _ => ?_) (fun q => absurd rfl q)
  exact K _ h2 H2 locs2 hC2 hM2 hR2 hS2
set_option maxRecDepth 4000 in
theorem lc_type {p : Program} {l : Launch} {e : Env} {s : State} {m : MethodId} {below : List Frame} {meth : Method} {c : Code} {b L : Nat} {xs : Nat → Int32} {G : zG} {i cells slots : Nat} {ls : Array Slot} {S : zS} (Y : yA p s m meth c b L xs G i cells slots ls) (K : ∀ S', yJ p l e s m below meth c b G S' (cells + 7) (slots + 92) 806 ls) : yJ p l e s m below meth c b G S cells slots 378 ls := by
  obtain ⟨C0, hL, hG, hKn, hl, hi, k1, k2⟩ := Y
  have hx := C0.1
  have hb := C0.2.1
  intro h H locs hC hM hR hS
  refine lv_aload_n hx hb (by decide +kernel : decode code 378 = .ok (.aload_n 1, 1)) rfl (lv_at hl 1 rfl) ?_
  refine y_ld (j := 1) (k := 1) (v := 1) C0 hL hG hS (lv_at hl 0 rfl) (lv_at hl 3 rfl) (by decide) (by decide) (by omega) (by decide +kernel) (by decide +kernel) (by decide +kernel) (by decide +kernel) (by decide +kernel) ?_
  refine y_c1 (x := (fType S (xs (i + 1)).toInt).1) (S' := (fType S (xs (i + 1)).toInt).2) (av := [vI (xs (i + 1)).toInt]) C0 hG hKn hC hM (by decide +kernel) cv_L_49 (sp_type l G h S (xs (i + 1)).toInt hC (InR_of _) 20 (by omega)) (fun r h' q => q) (by omega) (by omega) rfl k1 k2 hR hS hl.1 (by simp [y_i]) ?_
  intro h1 H1 locs1 hC1 hM1 hR1 hS1
  refine lv_aload_n hx hb (by decide +kernel : decode code 387 = .ok (.aload_n 2, 1)) rfl (lv_at hl 2 rfl) ?_
  refine y_ld (j := 1) (k := 1) (v := 1) C0 hL hG hS1 (lv_at hl 0 rfl) (lv_at hl 3 rfl) (by decide) (by decide) (by omega) (by decide +kernel) (by decide +kernel) (by decide +kernel) (by decide +kernel) (by decide +kernel) ?_
  refine y_c2 (v0 := .int (Int32.ofInt ((fType S (xs (i + 1)).toInt).1))) (x := (fType S (xs (i + 1)).toInt).1) (S := S) (S' := (fType S (xs (i + 1)).toInt).2) (av := [vI (xs (i + 1)).toInt]) C0 hG hKn hC1 hM1 (by decide +kernel) cv_L_52 (sm_type l G h1 S (xs (i + 1)).toInt hM1 (InR_of _) 20 (by omega)) (fun r h' q => q) rfl (by omega) (by omega) hR1 hS1 hl.1 (by simp [y_i]) rfl ?_
  intro h2 H2 locs2 hC2 hM2 hR2 hS2
  refine lv_icmp_eq (tgt := 806) hx hb (by decide +kernel : decode code 396 = .ok (.if_icmp .eq 410, 3)) (by decide) (fun _ => ?_) (fun q => absurd rfl q)
  exact K _ h2 H2 locs2 hC2 hM2 hR2 hS2
set_option maxRecDepth 4000 in
theorem lc_clearText {p : Program} {l : Launch} {e : Env} {s : State} {m : MethodId} {below : List Frame} {meth : Method} {c : Code} {b L : Nat} {xs : Nat → Int32} {G : zG} {i cells slots : Nat} {ls : Array Slot} {S : zS} (Y : yA p s m meth c b L xs G i cells slots ls) (K : ∀ S', yJ p l e s m below meth c b G S' (cells + 7) (slots + 92) 806 ls) : yJ p l e s m below meth c b G S cells slots 401 ls := by
  obtain ⟨C0, hL, hG, hKn, hl, hi, k1, k2⟩ := Y
  have hx := C0.1
  have hb := C0.2.1
  intro h H locs hC hM hR hS
  refine lv_aload_n hx hb (by decide +kernel : decode code 401 = .ok (.aload_n 1, 1)) rfl (lv_at hl 1 rfl) ?_
  refine y_c1 (x := (fClear S).1) (S' := (fClear S).2) (av := []) C0 hG hKn hC hM (by decide +kernel) cv_L_53 (sp_clearText l G h S  hC  20 (by omega)) (fun r h' q => q) (by omega) (by omega) rfl k1 k2 hR hS hl.1 (rfl) ?_
  intro h1 H1 locs1 hC1 hM1 hR1 hS1
  refine lv_aload_n hx hb (by decide +kernel : decode code 405 = .ok (.aload_n 2, 1)) rfl (lv_at hl 2 rfl) ?_
  refine y_c2 (v0 := .int (Int32.ofInt ((fClear S).1))) (x := (fClear S).1) (S := S) (S' := (fClear S).2) (av := []) C0 hG hKn hC1 hM1 (by decide +kernel) cv_L_56 (sm_clearText l G h1 S  hM1  20 (by omega)) (fun r h' q => q) rfl (by omega) (by omega) hR1 hS1 hl.1 (rfl) rfl ?_
  intro h2 H2 locs2 hC2 hM2 hR2 hS2
  refine lv_icmp_eq (tgt := 806) hx hb (by decide +kernel : decode code 409 = .ok (.if_icmp .eq 397, 3)) (by decide) (fun _ => ?_) (fun q => absurd rfl q)
  exact K _ h2 H2 locs2 hC2 hM2 hR2 hS2
set_option maxRecDepth 4000 in
theorem lc_fault {p : Program} {l : Launch} {e : Env} {s : State} {m : MethodId} {below : List Frame} {meth : Method} {c : Code} {b L : Nat} {xs : Nat → Int32} {G : zG} {i cells slots : Nat} {ls : Array Slot} {S : zS} (Y : yA p s m meth c b L xs G i cells slots ls) (K : ∀ S', yJ p l e s m below meth c b G S' (cells + 7) (slots + 92) 806 ls) : yJ p l e s m below meth c b G S cells slots 414 ls := by
  obtain ⟨C0, hL, hG, hKn, hl, hi, k1, k2⟩ := Y
  have hx := C0.1
  have hb := C0.2.1
  intro h H locs hC hM hR hS
  refine lv_aload_n hx hb (by decide +kernel : decode code 414 = .ok (.aload_n 1, 1)) rfl (lv_at hl 1 rfl) ?_
  refine y_ld (j := 1) (k := 1) (v := 1) C0 hL hG hS (lv_at hl 0 rfl) (lv_at hl 3 rfl) (by decide) (by decide) (by omega) (by decide +kernel) (by decide +kernel) (by decide +kernel) (by decide +kernel) (by decide +kernel) ?_
  refine y_nz (o1 := 7) (o2 := 4) (pc1 := 427) (pc2 := 428) C0 (by decide +kernel) (by decide) (by decide +kernel) (by decide +kernel) (by decide) (by decide +kernel) rfl ?_
  intro z hz hze
  refine y_c1 (x := ((fFault S z, S)).1) (S' := ((fFault S z, S)).2) (av := [vI z]) C0 hG hKn hC hM (by decide +kernel) cv_L_57 (sp_fault l G h S z hC hz 20 (by omega)) (fun r h' q => q) (by omega) (by omega) rfl k1 k2 hR hS hl.1 (rfl) ?_
  intro h1 H1 locs1 hC1 hM1 hR1 hS1
  refine lv_aload_n hx hb (by decide +kernel : decode code 431 = .ok (.aload_n 2, 1)) rfl (lv_at hl 2 rfl) ?_
  refine y_ld (j := 1) (k := 1) (v := 1) C0 hL hG hS1 (lv_at hl 0 rfl) (lv_at hl 3 rfl) (by decide) (by decide) (by omega) (by decide +kernel) (by decide +kernel) (by decide +kernel) (by decide +kernel) (by decide +kernel) ?_
  refine y_nz (o1 := 7) (o2 := 4) (pc1 := 444) (pc2 := 445) C0 (by decide +kernel) (by decide) (by decide +kernel) (by decide +kernel) (by decide) (by decide +kernel) rfl ?_
  intro z' hz' hze'
  rw [← hze] at hze'
  subst z'
  refine y_c2 (v0 := .int (Int32.ofInt (((fFault S z, S)).1))) (x := ((fFault S z, S)).1) (S := S) (S' := ((fFault S z, S)).2) (av := [vI z]) C0 hG hKn hC1 hM1 (by decide +kernel) cv_L_61 (sm_fault l G h1 S z hM1 hz 20 (by omega)) (fun r h' q => q) rfl (by omega) (by omega) hR1 hS1 hl.1 (rfl) rfl ?_
  intro h2 H2 locs2 hC2 hM2 hR2 hS2
  refine lv_icmp_eq (tgt := 806) hx hb (by decide +kernel : decode code 448 = .ok (.if_icmp .eq 358, 3)) (by decide) (fun _ => ?_) (fun q => absurd rfl q)
  exact K _ h2 H2 locs2 hC2 hM2 hR2 hS2
set_option maxRecDepth 4000 in
theorem lc_contains {p : Program} {l : Launch} {e : Env} {s : State} {m : MethodId} {below : List Frame} {meth : Method} {c : Code} {b L : Nat} {xs : Nat → Int32} {G : zG} {i cells slots : Nat} {ls : Array Slot} {S : zS} (Y : yA p s m meth c b L xs G i cells slots ls) (K : ∀ S', yJ p l e s m below meth c b G S' (cells + 7) (slots + 92) 806 ls) : yJ p l e s m below meth c b G S cells slots 453 ls := by
  obtain ⟨C0, hL, hG, hKn, hl, hi, k1, k2⟩ := Y
  have hx := C0.1
  have hb := C0.2.1
  intro h H locs hC hM hR hS
  refine lv_aload_n hx hb (by decide +kernel : decode code 453 = .ok (.aload_n 1, 1)) rfl (lv_at hl 1 rfl) ?_
  refine y_ld (j := 1) (k := 1) (v := 1) C0 hL hG hS (lv_at hl 0 rfl) (lv_at hl 3 rfl) (by decide) (by decide) (by omega) (by decide +kernel) (by decide +kernel) (by decide +kernel) (by decide +kernel) (by decide +kernel) ?_
  refine y_c1 (x := ((fContains S (xs (i + 1)).toInt, S)).1) (S' := ((fContains S (xs (i + 1)).toInt, S)).2) (av := [vI (xs (i + 1)).toInt]) C0 hG hKn hC hM (by decide +kernel) cv_L_62 (sp_contains l G h S (xs (i + 1)).toInt hC (InR_of _) 20 (by omega)) (fun r h' q => q) (by omega) (by omega) rfl k1 k2 hR hS hl.1 (by simp [y_i]) ?_
  intro h1 H1 locs1 hC1 hM1 hR1 hS1
  refine lv_aload_n hx hb (by decide +kernel : decode code 462 = .ok (.aload_n 2, 1)) rfl (lv_at hl 2 rfl) ?_
  refine y_ld (j := 1) (k := 1) (v := 1) C0 hL hG hS1 (lv_at hl 0 rfl) (lv_at hl 3 rfl) (by decide) (by decide) (by omega) (by decide +kernel) (by decide +kernel) (by decide +kernel) (by decide +kernel) (by decide +kernel) ?_
  refine y_c2 (v0 := .int (Int32.ofInt (((fContains S (xs (i + 1)).toInt, S)).1))) (x := ((fContains S (xs (i + 1)).toInt, S)).1) (S := S) (S' := ((fContains S (xs (i + 1)).toInt, S)).2) (av := [vI (xs (i + 1)).toInt]) C0 hG hKn hC1 hM1 (by decide +kernel) cv_L_65 (sm_contains l G h1 S (xs (i + 1)).toInt hM1 (InR_of _) 20 (by omega)) (fun r h' q => q) rfl (by omega) (by omega) hR1 hS1 hl.1 (by simp [y_i]) rfl ?_
  intro h2 H2 locs2 hC2 hM2 hR2 hS2
  refine lv_icmp_eq (tgt := 806) hx hb (by decide +kernel : decode code 471 = .ok (.if_icmp .eq 335, 3)) (by decide) (fun _ => ?_) (fun q => absurd rfl q)
  exact K _ h2 H2 locs2 hC2 hM2 hR2 hS2
set_option maxRecDepth 4000 in
theorem lc_add {p : Program} {l : Launch} {e : Env} {s : State} {m : MethodId} {below : List Frame} {meth : Method} {c : Code} {b L : Nat} {xs : Nat → Int32} {G : zG} {i cells slots : Nat} {ls : Array Slot} {S : zS} (Y : yA p s m meth c b L xs G i cells slots ls) (K : ∀ S', yJ p l e s m below meth c b G S' (cells + 7) (slots + 92) 806 ls) : yJ p l e s m below meth c b G S cells slots 476 ls := by
  obtain ⟨C0, hL, hG, hKn, hl, hi, k1, k2⟩ := Y
  have hx := C0.1
  have hb := C0.2.1
  intro h H locs hC hM hR hS
  refine lv_aload_n hx hb (by decide +kernel : decode code 476 = .ok (.aload_n 1, 1)) rfl (lv_at hl 1 rfl) ?_
  refine y_c1 (x := (fAdd S).1) (S' := (fAdd S).2) (av := []) C0 hG hKn hC hM (by decide +kernel) cv_L_66 (sp_add l G h S  hC  20 (by omega)) (fun r h' q => q) (by omega) (by omega) rfl k1 k2 hR hS hl.1 (rfl) ?_
  intro h1 H1 locs1 hC1 hM1 hR1 hS1
  refine lv_aload_n hx hb (by decide +kernel : decode code 480 = .ok (.aload_n 2, 1)) rfl (lv_at hl 2 rfl) ?_
  refine y_c2 (v0 := .int (Int32.ofInt ((fAdd S).1))) (x := (fAdd S).1) (S := S) (S' := (fAdd S).2) (av := []) C0 hG hKn hC1 hM1 (by decide +kernel) cv_L_69 (sm_add l G h1 S  hM1  20 (by omega)) (fun r h' q => q) rfl (by omega) (by omega) hR1 hS1 hl.1 (rfl) rfl ?_
  intro h2 H2 locs2 hC2 hM2 hR2 hS2
  refine lv_icmp_eq (tgt := 806) hx hb (by decide +kernel : decode code 484 = .ok (.if_icmp .eq 322, 3)) (by decide) (fun _ => ?_) (fun q => absurd rfl q)
  exact K _ h2 H2 locs2 hC2 hM2 hR2 hS2
set_option maxRecDepth 4000 in
theorem lc_drop {p : Program} {l : Launch} {e : Env} {s : State} {m : MethodId} {below : List Frame} {meth : Method} {c : Code} {b L : Nat} {xs : Nat → Int32} {G : zG} {i cells slots : Nat} {ls : Array Slot} {S : zS} (Y : yA p s m meth c b L xs G i cells slots ls) (K : ∀ S', yJ p l e s m below meth c b G S' (cells + 7) (slots + 92) 806 ls) : yJ p l e s m below meth c b G S cells slots 489 ls := by
  obtain ⟨C0, hL, hG, hKn, hl, hi, k1, k2⟩ := Y
  have hx := C0.1
  have hb := C0.2.1
  intro h H locs hC hM hR hS
  refine lv_aload_n hx hb (by decide +kernel : decode code 489 = .ok (.aload_n 1, 1)) rfl (lv_at hl 1 rfl) ?_
  refine y_ld (j := 1) (k := 1) (v := 1) C0 hL hG hS (lv_at hl 0 rfl) (lv_at hl 3 rfl) (by decide) (by decide) (by omega) (by decide +kernel) (by decide +kernel) (by decide +kernel) (by decide +kernel) (by decide +kernel) ?_
  refine y_c1 (x := (fDrop S (xs (i + 1)).toInt).1) (S' := (fDrop S (xs (i + 1)).toInt).2) (av := [vI (xs (i + 1)).toInt]) C0 hG hKn hC hM (by decide +kernel) cv_L_70 (sp_drop l G h S (xs (i + 1)).toInt hC (InR_of _) 20 (by omega)) (fun r h' q => q) (by omega) (by omega) rfl k1 k2 hR hS hl.1 (by simp [y_i]) ?_
  intro h1 H1 locs1 hC1 hM1 hR1 hS1
  refine lv_aload_n hx hb (by decide +kernel : decode code 498 = .ok (.aload_n 2, 1)) rfl (lv_at hl 2 rfl) ?_
  refine y_ld (j := 1) (k := 1) (v := 1) C0 hL hG hS1 (lv_at hl 0 rfl) (lv_at hl 3 rfl) (by decide) (by decide) (by omega) (by decide +kernel) (by decide +kernel) (by decide +kernel) (by decide +kernel) (by decide +kernel) ?_
  refine y_c2 (v0 := .int (Int32.ofInt ((fDrop S (xs (i + 1)).toInt).1))) (x := (fDrop S (xs (i + 1)).toInt).1) (S := S) (S' := (fDrop S (xs (i + 1)).toInt).2) (av := [vI (xs (i + 1)).toInt]) C0 hG hKn hC1 hM1 (by decide +kernel) cv_L_73 (sm_drop l G h1 S (xs (i + 1)).toInt hM1 (InR_of _) 20 (by omega)) (fun r h' q => q) rfl (by omega) (by omega) hR1 hS1 hl.1 (by simp [y_i]) rfl ?_
  intro h2 H2 locs2 hC2 hM2 hR2 hS2
  refine lv_icmp_eq (tgt := 806) hx hb (by decide +kernel : decode code 507 = .ok (.if_icmp .eq 299, 3)) (by decide) (fun _ => ?_) (fun q => absurd rfl q)
  exact K _ h2 H2 locs2 hC2 hM2 hR2 hS2
set_option maxRecDepth 4000 in
theorem lc_rule {p : Program} {l : Launch} {e : Env} {s : State} {m : MethodId} {below : List Frame} {meth : Method} {c : Code} {b L : Nat} {xs : Nat → Int32} {G : zG} {i cells slots : Nat} {ls : Array Slot} {S : zS} (Y : yA p s m meth c b L xs G i cells slots ls) (K : ∀ S', yJ p l e s m below meth c b G S' (cells + 7) (slots + 92) 806 ls) : yJ p l e s m below meth c b G S cells slots 512 ls := by
  obtain ⟨C0, hL, hG, hKn, hl, hi, k1, k2⟩ := Y
  have hx := C0.1
  have hb := C0.2.1
  intro h H locs hC hM hR hS
  refine lv_aload_n hx hb (by decide +kernel : decode code 512 = .ok (.aload_n 1, 1)) rfl (lv_at hl 1 rfl) ?_
  refine y_ld (j := 1) (k := 1) (v := 1) C0 hL hG hS (lv_at hl 0 rfl) (lv_at hl 3 rfl) (by decide) (by decide) (by omega) (by decide +kernel) (by decide +kernel) (by decide +kernel) (by decide +kernel) (by decide +kernel) ?_
  refine y_ld (j := 2) (k := 2) (v := 2) C0 hL hG hS (lv_at hl 0 rfl) (lv_at hl 3 rfl) (by decide) (by decide) (by omega) (by decide +kernel) (by decide +kernel) (by decide +kernel) (by decide +kernel) (by decide +kernel) ?_
  refine y_c1 (x := ((fRule S (xs (i + 1)).toInt (xs (i + 2)).toInt, S)).1) (S' := ((fRule S (xs (i + 1)).toInt (xs (i + 2)).toInt, S)).2) (av := [vI (xs (i + 1)).toInt, vI (xs (i + 2)).toInt]) C0 hG hKn hC hM (by decide +kernel) cv_L_74 (sp_rule l G h S (xs (i + 1)).toInt (xs (i + 2)).toInt hC (InR_of _) (InR_of _) 20 (by omega)) (fun r h' q => q) (by omega) (by omega) rfl k1 k2 hR hS hl.1 (by simp [y_i]) ?_
  intro h1 H1 locs1 hC1 hM1 hR1 hS1
  refine lv_aload_n hx hb (by decide +kernel : decode code 526 = .ok (.aload_n 2, 1)) rfl (lv_at hl 2 rfl) ?_
  refine y_ld (j := 1) (k := 1) (v := 1) C0 hL hG hS1 (lv_at hl 0 rfl) (lv_at hl 3 rfl) (by decide) (by decide) (by omega) (by decide +kernel) (by decide +kernel) (by decide +kernel) (by decide +kernel) (by decide +kernel) ?_
  refine y_ld (j := 2) (k := 2) (v := 2) C0 hL hG hS1 (lv_at hl 0 rfl) (lv_at hl 3 rfl) (by decide) (by decide) (by omega) (by decide +kernel) (by decide +kernel) (by decide +kernel) (by decide +kernel) (by decide +kernel) ?_
  refine y_c2 (v0 := .int (Int32.ofInt (((fRule S (xs (i + 1)).toInt (xs (i + 2)).toInt, S)).1))) (x := ((fRule S (xs (i + 1)).toInt (xs (i + 2)).toInt, S)).1) (S := S) (S' := ((fRule S (xs (i + 1)).toInt (xs (i + 2)).toInt, S)).2) (av := [vI (xs (i + 1)).toInt, vI (xs (i + 2)).toInt]) C0 hG hKn hC1 hM1 (by decide +kernel) cv_L_77 (sm_rule l G h1 S (xs (i + 1)).toInt (xs (i + 2)).toInt hM1 (InR_of _) (InR_of _) 20 (by omega)) (fun r h' q => by obtain ⟨q1, q2⟩ := q; subst h'; exact ⟨q1, hM1, MF.rf⟩) rfl (by omega) (by omega) hR1 hS1 hl.1 (by simp [y_i]) rfl ?_
  intro h2 H2 locs2 hC2 hM2 hR2 hS2
  refine lv_icmp_eq (tgt := 806) hx hb (by decide +kernel : decode code 540 = .ok (.if_icmp .eq 266, 3)) (by decide) (fun _ => ?_) (fun q => absurd rfl q)
  exact K _ h2 H2 locs2 hC2 hM2 hR2 hS2
set_option maxRecDepth 4000 in
theorem lc_solve {p : Program} {l : Launch} {e : Env} {s : State} {m : MethodId} {below : List Frame} {meth : Method} {c : Code} {b L : Nat} {xs : Nat → Int32} {G : zG} {i cells slots : Nat} {ls : Array Slot} {S : zS} (Y : yA p s m meth c b L xs G i cells slots ls) (K : ∀ S', yJ p l e s m below meth c b G S' (cells + 7) (slots + 92) 806 ls) : yJ p l e s m below meth c b G S cells slots 545 ls := by
  obtain ⟨C0, hL, hG, hKn, hl, hi, k1, k2⟩ := Y
  have hx := C0.1
  have hb := C0.2.1
  intro h H locs hC hM hR hS
  refine lv_aload_n hx hb (by decide +kernel : decode code 545 = .ok (.aload_n 1, 1)) rfl (lv_at hl 1 rfl) ?_
  refine y_ld (j := 1) (k := 1) (v := 1) C0 hL hG hS (lv_at hl 0 rfl) (lv_at hl 3 rfl) (by decide) (by decide) (by omega) (by decide +kernel) (by decide +kernel) (by decide +kernel) (by decide +kernel) (by decide +kernel) ?_
  refine y_c1 (x := ((fSolve S (xs (i + 1)).toInt, S)).1) (S' := ((fSolve S (xs (i + 1)).toInt, S)).2) (av := [vI (xs (i + 1)).toInt]) C0 hG hKn hC hM (by decide +kernel) cv_L_78 (sp_solve l G h S (xs (i + 1)).toInt hC (InR_of _) 20 (by omega)) (fun r h' q => q) (by omega) (by omega) rfl k1 k2 hR hS hl.1 (by simp [y_i]) ?_
  intro h1 H1 locs1 hC1 hM1 hR1 hS1
  refine lv_aload_n hx hb (by decide +kernel : decode code 554 = .ok (.aload_n 2, 1)) rfl (lv_at hl 2 rfl) ?_
  refine y_ld (j := 1) (k := 1) (v := 1) C0 hL hG hS1 (lv_at hl 0 rfl) (lv_at hl 3 rfl) (by decide) (by decide) (by omega) (by decide +kernel) (by decide +kernel) (by decide +kernel) (by decide +kernel) (by decide +kernel) ?_
  refine y_c2 (v0 := .int (Int32.ofInt (((fSolve S (xs (i + 1)).toInt, S)).1))) (x := ((fSolve S (xs (i + 1)).toInt, S)).1) (S := S) (S' := ((fSolve S (xs (i + 1)).toInt, S)).2) (av := [vI (xs (i + 1)).toInt]) C0 hG hKn hC1 hM1 (by decide +kernel) cv_L_81 (sm_solve l G h1 S (xs (i + 1)).toInt hM1 (InR_of _) 20 (by omega)) (fun r h' q => ⟨q.1, q.2.1, q.2.2.mf⟩) rfl (by omega) (by omega) hR1 hS1 hl.1 (by simp [y_i]) rfl ?_
  intro h2 H2 locs2 hC2 hM2 hR2 hS2
  refine lv_icmp_eq (tgt := 806) hx hb (by decide +kernel : decode code 563 = .ok (.if_icmp .eq 243, 3)) (by decide) (fun _ => ?_) (fun q => absurd rfl q)
  exact K _ h2 H2 locs2 hC2 hM2 hR2 hS2
set_option maxRecDepth 4000 in
theorem lc_chosen {p : Program} {l : Launch} {e : Env} {s : State} {m : MethodId} {below : List Frame} {meth : Method} {c : Code} {b L : Nat} {xs : Nat → Int32} {G : zG} {i cells slots : Nat} {ls : Array Slot} {S : zS} (Y : yA p s m meth c b L xs G i cells slots ls) (K : ∀ S', yJ p l e s m below meth c b G S' (cells + 7) (slots + 92) 806 ls) : yJ p l e s m below meth c b G S cells slots 568 ls := by
  obtain ⟨C0, hL, hG, hKn, hl, hi, k1, k2⟩ := Y
  have hx := C0.1
  have hb := C0.2.1
  intro h H locs hC hM hR hS
  refine lv_aload_n hx hb (by decide +kernel : decode code 568 = .ok (.aload_n 1, 1)) rfl (lv_at hl 1 rfl) ?_
  refine y_ld (j := 1) (k := 1) (v := 1) C0 hL hG hS (lv_at hl 0 rfl) (lv_at hl 3 rfl) (by decide) (by decide) (by omega) (by decide +kernel) (by decide +kernel) (by decide +kernel) (by decide +kernel) (by decide +kernel) ?_
  refine y_c1 (x := ((fChosen S (xs (i + 1)).toInt, S)).1) (S' := ((fChosen S (xs (i + 1)).toInt, S)).2) (av := [vI (xs (i + 1)).toInt]) C0 hG hKn hC hM (by decide +kernel) cv_L_82 (sp_chosen l G h S (xs (i + 1)).toInt hC (InR_of _) 20 (by omega)) (fun r h' q => q) (by omega) (by omega) rfl k1 k2 hR hS hl.1 (by simp [y_i]) ?_
  intro h1 H1 locs1 hC1 hM1 hR1 hS1
  refine lv_aload_n hx hb (by decide +kernel : decode code 577 = .ok (.aload_n 2, 1)) rfl (lv_at hl 2 rfl) ?_
  refine y_ld (j := 1) (k := 1) (v := 1) C0 hL hG hS1 (lv_at hl 0 rfl) (lv_at hl 3 rfl) (by decide) (by decide) (by omega) (by decide +kernel) (by decide +kernel) (by decide +kernel) (by decide +kernel) (by decide +kernel) ?_
  refine y_c2 (v0 := .int (Int32.ofInt (((fChosen S (xs (i + 1)).toInt, S)).1))) (x := ((fChosen S (xs (i + 1)).toInt, S)).1) (S := S) (S' := ((fChosen S (xs (i + 1)).toInt, S)).2) (av := [vI (xs (i + 1)).toInt]) C0 hG hKn hC1 hM1 (by decide +kernel) cv_L_85 (sm_chosen l G h1 S (xs (i + 1)).toInt hM1 (InR_of _) 20 (by omega)) (fun r h' q => q) rfl (by omega) (by omega) hR1 hS1 hl.1 (by simp [y_i]) rfl ?_
  intro h2 H2 locs2 hC2 hM2 hR2 hS2
  refine lv_icmp_eq (tgt := 806) hx hb (by decide +kernel : decode code 586 = .ok (.if_icmp .eq 220, 3)) (by decide) (fun _ => ?_) (fun q => absurd rfl q)
  exact K _ h2 H2 locs2 hC2 hM2 hR2 hS2
set_option maxRecDepth 4000 in
theorem lc_solutions {p : Program} {l : Launch} {e : Env} {s : State} {m : MethodId} {below : List Frame} {meth : Method} {c : Code} {b L : Nat} {xs : Nat → Int32} {G : zG} {i cells slots : Nat} {ls : Array Slot} {S : zS} (Y : yA p s m meth c b L xs G i cells slots ls) (K : ∀ S', yJ p l e s m below meth c b G S' (cells + 7) (slots + 92) 806 ls) : yJ p l e s m below meth c b G S cells slots 591 ls := by
  obtain ⟨C0, hL, hG, hKn, hl, hi, k1, k2⟩ := Y
  have hx := C0.1
  have hb := C0.2.1
  intro h H locs hC hM hR hS
  refine lv_aload_n hx hb (by decide +kernel : decode code 591 = .ok (.aload_n 1, 1)) rfl (lv_at hl 1 rfl) ?_
  refine y_ld (j := 1) (k := 1) (v := 1) C0 hL hG hS (lv_at hl 0 rfl) (lv_at hl 3 rfl) (by decide) (by decide) (by omega) (by decide +kernel) (by decide +kernel) (by decide +kernel) (by decide +kernel) (by decide +kernel) ?_
  refine y_c1 (x := ((fSolutions S (xs (i + 1)).toInt, S)).1) (S' := ((fSolutions S (xs (i + 1)).toInt, S)).2) (av := [vI (xs (i + 1)).toInt]) C0 hG hKn hC hM (by decide +kernel) cv_L_86 (sp_solutions l G h S (xs (i + 1)).toInt hC (InR_of _) 20 (by omega)) (fun r h' q => q) (by omega) (by omega) rfl k1 k2 hR hS hl.1 (by simp [y_i]) ?_
  intro h1 H1 locs1 hC1 hM1 hR1 hS1
  refine lv_aload_n hx hb (by decide +kernel : decode code 600 = .ok (.aload_n 2, 1)) rfl (lv_at hl 2 rfl) ?_
  refine y_ld (j := 1) (k := 1) (v := 1) C0 hL hG hS1 (lv_at hl 0 rfl) (lv_at hl 3 rfl) (by decide) (by decide) (by omega) (by decide +kernel) (by decide +kernel) (by decide +kernel) (by decide +kernel) (by decide +kernel) ?_
  refine y_c2 (v0 := .int (Int32.ofInt (((fSolutions S (xs (i + 1)).toInt, S)).1))) (x := ((fSolutions S (xs (i + 1)).toInt, S)).1) (S := S) (S' := ((fSolutions S (xs (i + 1)).toInt, S)).2) (av := [vI (xs (i + 1)).toInt]) C0 hG hKn hC1 hM1 (by decide +kernel) cv_L_89 (sm_solutions l G h1 S (xs (i + 1)).toInt hM1 (InR_of _) 20 (by omega)) (fun r h' q => q) rfl (by omega) (by omega) hR1 hS1 hl.1 (by simp [y_i]) rfl ?_
  intro h2 H2 locs2 hC2 hM2 hR2 hS2
  refine lv_icmp_eq (tgt := 806) hx hb (by decide +kernel : decode code 609 = .ok (.if_icmp .eq 197, 3)) (by decide) (fun _ => ?_) (fun q => absurd rfl q)
  exact K _ h2 H2 locs2 hC2 hM2 hR2 hS2
set_option maxRecDepth 4000 in
theorem lc_possible {p : Program} {l : Launch} {e : Env} {s : State} {m : MethodId} {below : List Frame} {meth : Method} {c : Code} {b L : Nat} {xs : Nat → Int32} {G : zG} {i cells slots : Nat} {ls : Array Slot} {S : zS} (Y : yA p s m meth c b L xs G i cells slots ls) (K : ∀ S', yJ p l e s m below meth c b G S' (cells + 7) (slots + 92) 806 ls) : yJ p l e s m below meth c b G S cells slots 614 ls := by
  obtain ⟨C0, hL, hG, hKn, hl, hi, k1, k2⟩ := Y
  have hx := C0.1
  have hb := C0.2.1
  intro h H locs hC hM hR hS
  refine lv_aload_n hx hb (by decide +kernel : decode code 614 = .ok (.aload_n 1, 1)) rfl (lv_at hl 1 rfl) ?_
  refine y_ld (j := 1) (k := 1) (v := 1) C0 hL hG hS (lv_at hl 0 rfl) (lv_at hl 3 rfl) (by decide) (by decide) (by omega) (by decide +kernel) (by decide +kernel) (by decide +kernel) (by decide +kernel) (by decide +kernel) ?_
  refine y_ld (j := 2) (k := 2) (v := 2) C0 hL hG hS (lv_at hl 0 rfl) (lv_at hl 3 rfl) (by decide) (by decide) (by omega) (by decide +kernel) (by decide +kernel) (by decide +kernel) (by decide +kernel) (by decide +kernel) ?_
  refine y_c1 (x := ((fPossible S (xs (i + 1)).toInt (xs (i + 2)).toInt, S)).1) (S' := ((fPossible S (xs (i + 1)).toInt (xs (i + 2)).toInt, S)).2) (av := [vI (xs (i + 1)).toInt, vI (xs (i + 2)).toInt]) C0 hG hKn hC hM (by decide +kernel) cv_L_90 (sp_possible l G h S (xs (i + 1)).toInt (xs (i + 2)).toInt hC (InR_of _) (InR_of _) 20 (by omega)) (fun r h' q => q) (by omega) (by omega) rfl k1 k2 hR hS hl.1 (by simp [y_i]) ?_
  intro h1 H1 locs1 hC1 hM1 hR1 hS1
  refine lv_aload_n hx hb (by decide +kernel : decode code 628 = .ok (.aload_n 2, 1)) rfl (lv_at hl 2 rfl) ?_
  refine y_ld (j := 1) (k := 1) (v := 1) C0 hL hG hS1 (lv_at hl 0 rfl) (lv_at hl 3 rfl) (by decide) (by decide) (by omega) (by decide +kernel) (by decide +kernel) (by decide +kernel) (by decide +kernel) (by decide +kernel) ?_
  refine y_ld (j := 2) (k := 2) (v := 2) C0 hL hG hS1 (lv_at hl 0 rfl) (lv_at hl 3 rfl) (by decide) (by decide) (by omega) (by decide +kernel) (by decide +kernel) (by decide +kernel) (by decide +kernel) (by decide +kernel) ?_
  refine y_c2 (v0 := .int (Int32.ofInt (((fPossible S (xs (i + 1)).toInt (xs (i + 2)).toInt, S)).1))) (x := ((fPossible S (xs (i + 1)).toInt (xs (i + 2)).toInt, S)).1) (S := S) (S' := ((fPossible S (xs (i + 1)).toInt (xs (i + 2)).toInt, S)).2) (av := [vI (xs (i + 1)).toInt, vI (xs (i + 2)).toInt]) C0 hG hKn hC1 hM1 (by decide +kernel) cv_L_93 (sm_possible l G h1 S (xs (i + 1)).toInt (xs (i + 2)).toInt hM1 (InR_of _) (InR_of _) 20 (by omega)) (fun r h' q => q) rfl (by omega) (by omega) hR1 hS1 hl.1 (by simp [y_i]) rfl ?_
  intro h2 H2 locs2 hC2 hM2 hR2 hS2
  refine lv_icmp_eq (tgt := 806) hx hb (by decide +kernel : decode code 642 = .ok (.if_icmp .eq 164, 3)) (by decide) (fun _ => ?_) (fun q => absurd rfl q)
  exact K _ h2 H2 locs2 hC2 hM2 hR2 hS2
set_option maxRecDepth 4000 in
theorem lc_narrowed {p : Program} {l : Launch} {e : Env} {s : State} {m : MethodId} {below : List Frame} {meth : Method} {c : Code} {b L : Nat} {xs : Nat → Int32} {G : zG} {i cells slots : Nat} {ls : Array Slot} {S : zS} (Y : yA p s m meth c b L xs G i cells slots ls) (K : ∀ S', yJ p l e s m below meth c b G S' (cells + 7) (slots + 92) 806 ls) : yJ p l e s m below meth c b G S cells slots 647 ls := by
  obtain ⟨C0, hL, hG, hKn, hl, hi, k1, k2⟩ := Y
  have hx := C0.1
  have hb := C0.2.1
  intro h H locs hC hM hR hS
  refine lv_aload_n hx hb (by decide +kernel : decode code 647 = .ok (.aload_n 1, 1)) rfl (lv_at hl 1 rfl) ?_
  refine y_ld (j := 1) (k := 1) (v := 1) C0 hL hG hS (lv_at hl 0 rfl) (lv_at hl 3 rfl) (by decide) (by decide) (by omega) (by decide +kernel) (by decide +kernel) (by decide +kernel) (by decide +kernel) (by decide +kernel) ?_
  refine y_ld (j := 2) (k := 2) (v := 2) C0 hL hG hS (lv_at hl 0 rfl) (lv_at hl 3 rfl) (by decide) (by decide) (by omega) (by decide +kernel) (by decide +kernel) (by decide +kernel) (by decide +kernel) (by decide +kernel) ?_
  refine y_c1 (x := ((fNarrowed S (xs (i + 1)).toInt (xs (i + 2)).toInt, S)).1) (S' := ((fNarrowed S (xs (i + 1)).toInt (xs (i + 2)).toInt, S)).2) (av := [vI (xs (i + 1)).toInt, vI (xs (i + 2)).toInt]) C0 hG hKn hC hM (by decide +kernel) cv_L_94 (sp_narrowed l G h S (xs (i + 1)).toInt (xs (i + 2)).toInt hC (InR_of _) (InR_of _) 20 (by omega)) (fun r h' q => q) (by omega) (by omega) rfl k1 k2 hR hS hl.1 (by simp [y_i]) ?_
  intro h1 H1 locs1 hC1 hM1 hR1 hS1
  refine lv_aload_n hx hb (by decide +kernel : decode code 661 = .ok (.aload_n 2, 1)) rfl (lv_at hl 2 rfl) ?_
  refine y_ld (j := 1) (k := 1) (v := 1) C0 hL hG hS1 (lv_at hl 0 rfl) (lv_at hl 3 rfl) (by decide) (by decide) (by omega) (by decide +kernel) (by decide +kernel) (by decide +kernel) (by decide +kernel) (by decide +kernel) ?_
  refine y_ld (j := 2) (k := 2) (v := 2) C0 hL hG hS1 (lv_at hl 0 rfl) (lv_at hl 3 rfl) (by decide) (by decide) (by omega) (by decide +kernel) (by decide +kernel) (by decide +kernel) (by decide +kernel) (by decide +kernel) ?_
  refine y_c2 (v0 := .int (Int32.ofInt (((fNarrowed S (xs (i + 1)).toInt (xs (i + 2)).toInt, S)).1))) (x := ((fNarrowed S (xs (i + 1)).toInt (xs (i + 2)).toInt, S)).1) (S := S) (S' := ((fNarrowed S (xs (i + 1)).toInt (xs (i + 2)).toInt, S)).2) (av := [vI (xs (i + 1)).toInt, vI (xs (i + 2)).toInt]) C0 hG hKn hC1 hM1 (by decide +kernel) cv_L_97 (sm_narrowed l G h1 S (xs (i + 1)).toInt (xs (i + 2)).toInt hM1 (InR_of _) (InR_of _) 20 (by omega)) (fun r h' q => ⟨q.1, q.2.1, q.2.2.mf⟩) rfl (by omega) (by omega) hR1 hS1 hl.1 (by simp [y_i]) rfl ?_
  intro h2 H2 locs2 hC2 hM2 hR2 hS2
  refine lv_icmp_eq (tgt := 806) hx hb (by decide +kernel : decode code 675 = .ok (.if_icmp .eq 131, 3)) (by decide) (fun _ => ?_) (fun q => absurd rfl q)
  exact K _ h2 H2 locs2 hC2 hM2 hR2 hS2
set_option maxRecDepth 4000 in
theorem lc_why {p : Program} {l : Launch} {e : Env} {s : State} {m : MethodId} {below : List Frame} {meth : Method} {c : Code} {b L : Nat} {xs : Nat → Int32} {G : zG} {i cells slots : Nat} {ls : Array Slot} {S : zS} (Y : yA p s m meth c b L xs G i cells slots ls) (K : ∀ S', yJ p l e s m below meth c b G S' (cells + 7) (slots + 92) 806 ls) : yJ p l e s m below meth c b G S cells slots 680 ls := by
  obtain ⟨C0, hL, hG, hKn, hl, hi, k1, k2⟩ := Y
  have hx := C0.1
  have hb := C0.2.1
  intro h H locs hC hM hR hS
  refine lv_aload_n hx hb (by decide +kernel : decode code 680 = .ok (.aload_n 1, 1)) rfl (lv_at hl 1 rfl) ?_
  refine y_ld (j := 1) (k := 1) (v := 1) C0 hL hG hS (lv_at hl 0 rfl) (lv_at hl 3 rfl) (by decide) (by decide) (by omega) (by decide +kernel) (by decide +kernel) (by decide +kernel) (by decide +kernel) (by decide +kernel) ?_
  refine y_ld (j := 2) (k := 2) (v := 2) C0 hL hG hS (lv_at hl 0 rfl) (lv_at hl 3 rfl) (by decide) (by decide) (by omega) (by decide +kernel) (by decide +kernel) (by decide +kernel) (by decide +kernel) (by decide +kernel) ?_
  refine y_c1 (x := ((fWhy S (xs (i + 1)).toInt (xs (i + 2)).toInt, S)).1) (S' := ((fWhy S (xs (i + 1)).toInt (xs (i + 2)).toInt, S)).2) (av := [vI (xs (i + 1)).toInt, vI (xs (i + 2)).toInt]) C0 hG hKn hC hM (by decide +kernel) cv_L_98 (sp_why l G h S (xs (i + 1)).toInt (xs (i + 2)).toInt hC (InR_of _) (InR_of _) 20 (by omega)) (fun r h' q => q) (by omega) (by omega) rfl k1 k2 hR hS hl.1 (by simp [y_i]) ?_
  intro h1 H1 locs1 hC1 hM1 hR1 hS1
  refine lv_aload_n hx hb (by decide +kernel : decode code 694 = .ok (.aload_n 2, 1)) rfl (lv_at hl 2 rfl) ?_
  refine y_ld (j := 1) (k := 1) (v := 1) C0 hL hG hS1 (lv_at hl 0 rfl) (lv_at hl 3 rfl) (by decide) (by decide) (by omega) (by decide +kernel) (by decide +kernel) (by decide +kernel) (by decide +kernel) (by decide +kernel) ?_
  refine y_ld (j := 2) (k := 2) (v := 2) C0 hL hG hS1 (lv_at hl 0 rfl) (lv_at hl 3 rfl) (by decide) (by decide) (by omega) (by decide +kernel) (by decide +kernel) (by decide +kernel) (by decide +kernel) (by decide +kernel) ?_
  refine y_c2 (v0 := .int (Int32.ofInt (((fWhy S (xs (i + 1)).toInt (xs (i + 2)).toInt, S)).1))) (x := ((fWhy S (xs (i + 1)).toInt (xs (i + 2)).toInt, S)).1) (S := S) (S' := ((fWhy S (xs (i + 1)).toInt (xs (i + 2)).toInt, S)).2) (av := [vI (xs (i + 1)).toInt, vI (xs (i + 2)).toInt]) C0 hG hKn hC1 hM1 (by decide +kernel) cv_L_101 (sm_why l G h1 S (xs (i + 1)).toInt (xs (i + 2)).toInt hM1 (InR_of _) (InR_of _) 20 (by omega)) (fun r h' q => q) rfl (by omega) (by omega) hR1 hS1 hl.1 (by simp [y_i]) rfl ?_
  intro h2 H2 locs2 hC2 hM2 hR2 hS2
  refine lv_icmp_eq (tgt := 806) hx hb (by decide +kernel : decode code 708 = .ok (.if_icmp .eq 98, 3)) (by decide) (fun _ => ?_) (fun q => absurd rfl q)
  exact K _ h2 H2 locs2 hC2 hM2 hR2 hS2
set_option maxRecDepth 4000 in
theorem lc_refusal {p : Program} {l : Launch} {e : Env} {s : State} {m : MethodId} {below : List Frame} {meth : Method} {c : Code} {b L : Nat} {xs : Nat → Int32} {G : zG} {i cells slots : Nat} {ls : Array Slot} {S : zS} (Y : yA p s m meth c b L xs G i cells slots ls) (K : ∀ S', yJ p l e s m below meth c b G S' (cells + 7) (slots + 92) 806 ls) : yJ p l e s m below meth c b G S cells slots 713 ls := by
  obtain ⟨C0, hL, hG, hKn, hl, hi, k1, k2⟩ := Y
  have hx := C0.1
  have hb := C0.2.1
  intro h H locs hC hM hR hS
  refine lv_aload_n hx hb (by decide +kernel : decode code 713 = .ok (.aload_n 1, 1)) rfl (lv_at hl 1 rfl) ?_
  refine y_ld (j := 1) (k := 1) (v := 1) C0 hL hG hS (lv_at hl 0 rfl) (lv_at hl 3 rfl) (by decide) (by decide) (by omega) (by decide +kernel) (by decide +kernel) (by decide +kernel) (by decide +kernel) (by decide +kernel) ?_
  refine y_c1 (x := ((fRefusal S (xs (i + 1)).toInt, S)).1) (S' := ((fRefusal S (xs (i + 1)).toInt, S)).2) (av := [vI (xs (i + 1)).toInt]) C0 hG hKn hC hM (by decide +kernel) cv_L_102 (sp_refusal l G h S (xs (i + 1)).toInt hC (InR_of _) 20 (by omega)) (fun r h' q => q) (by omega) (by omega) rfl k1 k2 hR hS hl.1 (by simp [y_i]) ?_
  intro h1 H1 locs1 hC1 hM1 hR1 hS1
  refine lv_aload_n hx hb (by decide +kernel : decode code 722 = .ok (.aload_n 2, 1)) rfl (lv_at hl 2 rfl) ?_
  refine y_ld (j := 1) (k := 1) (v := 1) C0 hL hG hS1 (lv_at hl 0 rfl) (lv_at hl 3 rfl) (by decide) (by decide) (by omega) (by decide +kernel) (by decide +kernel) (by decide +kernel) (by decide +kernel) (by decide +kernel) ?_
  refine y_c2 (v0 := .int (Int32.ofInt (((fRefusal S (xs (i + 1)).toInt, S)).1))) (x := ((fRefusal S (xs (i + 1)).toInt, S)).1) (S := S) (S' := ((fRefusal S (xs (i + 1)).toInt, S)).2) (av := [vI (xs (i + 1)).toInt]) C0 hG hKn hC1 hM1 (by decide +kernel) cv_L_105 (sm_refusal l G h1 S (xs (i + 1)).toInt hM1 (InR_of _) 20 (by omega)) (fun r h' q => q) rfl (by omega) (by omega) hR1 hS1 hl.1 (by simp [y_i]) rfl ?_
  intro h2 H2 locs2 hC2 hM2 hR2 hS2
  refine lv_icmp_eq (tgt := 806) hx hb (by decide +kernel : decode code 731 = .ok (.if_icmp .eq 75, 3)) (by decide) (fun _ => ?_) (fun q => absurd rfl q)
  exact K _ h2 H2 locs2 hC2 hM2 hR2 hS2
set_option maxRecDepth 4000 in
theorem lc_wouldChange {p : Program} {l : Launch} {e : Env} {s : State} {m : MethodId} {below : List Frame} {meth : Method} {c : Code} {b L : Nat} {xs : Nat → Int32} {G : zG} {i cells slots : Nat} {ls : Array Slot} {S : zS} (Y : yA p s m meth c b L xs G i cells slots ls) (K : ∀ S', yJ p l e s m below meth c b G S' (cells + 7) (slots + 92) 806 ls) : yJ p l e s m below meth c b G S cells slots 736 ls := by
  obtain ⟨C0, hL, hG, hKn, hl, hi, k1, k2⟩ := Y
  have hx := C0.1
  have hb := C0.2.1
  intro h H locs hC hM hR hS
  refine lv_aload_n hx hb (by decide +kernel : decode code 736 = .ok (.aload_n 1, 1)) rfl (lv_at hl 1 rfl) ?_
  refine y_ld (j := 1) (k := 1) (v := 1) C0 hL hG hS (lv_at hl 0 rfl) (lv_at hl 3 rfl) (by decide) (by decide) (by omega) (by decide +kernel) (by decide +kernel) (by decide +kernel) (by decide +kernel) (by decide +kernel) ?_
  refine y_ld (j := 2) (k := 2) (v := 2) C0 hL hG hS (lv_at hl 0 rfl) (lv_at hl 3 rfl) (by decide) (by decide) (by omega) (by decide +kernel) (by decide +kernel) (by decide +kernel) (by decide +kernel) (by decide +kernel) ?_
  refine y_c1 (x := ((fWould S (xs (i + 1)).toInt (xs (i + 2)).toInt, S)).1) (S' := ((fWould S (xs (i + 1)).toInt (xs (i + 2)).toInt, S)).2) (av := [vI (xs (i + 1)).toInt, vI (xs (i + 2)).toInt]) C0 hG hKn hC hM (by decide +kernel) cv_L_106 (sp_wouldChange l G h S (xs (i + 1)).toInt (xs (i + 2)).toInt hC (InR_of _) (InR_of _) 20 (by omega)) (fun r h' q => q) (by omega) (by omega) rfl k1 k2 hR hS hl.1 (by simp [y_i]) ?_
  intro h1 H1 locs1 hC1 hM1 hR1 hS1
  refine lv_aload_n hx hb (by decide +kernel : decode code 750 = .ok (.aload_n 2, 1)) rfl (lv_at hl 2 rfl) ?_
  refine y_ld (j := 1) (k := 1) (v := 1) C0 hL hG hS1 (lv_at hl 0 rfl) (lv_at hl 3 rfl) (by decide) (by decide) (by omega) (by decide +kernel) (by decide +kernel) (by decide +kernel) (by decide +kernel) (by decide +kernel) ?_
  refine y_ld (j := 2) (k := 2) (v := 2) C0 hL hG hS1 (lv_at hl 0 rfl) (lv_at hl 3 rfl) (by decide) (by decide) (by omega) (by decide +kernel) (by decide +kernel) (by decide +kernel) (by decide +kernel) (by decide +kernel) ?_
  refine y_c2 (v0 := .int (Int32.ofInt (((fWould S (xs (i + 1)).toInt (xs (i + 2)).toInt, S)).1))) (x := ((fWould S (xs (i + 1)).toInt (xs (i + 2)).toInt, S)).1) (S := S) (S' := ((fWould S (xs (i + 1)).toInt (xs (i + 2)).toInt, S)).2) (av := [vI (xs (i + 1)).toInt, vI (xs (i + 2)).toInt]) C0 hG hKn hC1 hM1 (by decide +kernel) cv_L_109 (sm_wouldChange l G h1 S (xs (i + 1)).toInt (xs (i + 2)).toInt hM1 (InR_of _) (InR_of _) 20 (by omega)) (fun r h' q => q) rfl (by omega) (by omega) hR1 hS1 hl.1 (by simp [y_i]) rfl ?_
  intro h2 H2 locs2 hC2 hM2 hR2 hS2
  refine lv_icmp_eq (tgt := 806) hx hb (by decide +kernel : decode code 764 = .ok (.if_icmp .eq 42, 3)) (by decide) (fun _ => ?_) (fun q => absurd rfl q)
  exact K _ h2 H2 locs2 hC2 hM2 hR2 hS2
set_option maxRecDepth 4000 in
theorem lc_count {p : Program} {l : Launch} {e : Env} {s : State} {m : MethodId} {below : List Frame} {meth : Method} {c : Code} {b L : Nat} {xs : Nat → Int32} {G : zG} {i cells slots : Nat} {ls : Array Slot} {S : zS} (Y : yA p s m meth c b L xs G i cells slots ls) (K : ∀ S', yJ p l e s m below meth c b G S' (cells + 7) (slots + 92) 806 ls) : yJ p l e s m below meth c b G S cells slots 769 ls := by
  obtain ⟨C0, hL, hG, hKn, hl, hi, k1, k2⟩ := Y
  have hx := C0.1
  have hb := C0.2.1
  intro h H locs hC hM hR hS
  refine lv_aload_n hx hb (by decide +kernel : decode code 769 = .ok (.aload_n 1, 1)) rfl (lv_at hl 1 rfl) ?_
  refine y_ld (j := 1) (k := 1) (v := 1) C0 hL hG hS (lv_at hl 0 rfl) (lv_at hl 3 rfl) (by decide) (by decide) (by omega) (by decide +kernel) (by decide +kernel) (by decide +kernel) (by decide +kernel) (by decide +kernel) ?_
  refine y_c1 (x := ((fCount S (xs (i + 1)).toInt, S)).1) (S' := ((fCount S (xs (i + 1)).toInt, S)).2) (av := [vI (xs (i + 1)).toInt]) C0 hG hKn hC hM (by decide +kernel) cv_L_110 (sp_count l G h S (xs (i + 1)).toInt hC (InR_of _) 20 (by omega)) (fun r h' q => by obtain ⟨q1, q2⟩ := q; subst h'; exact ⟨q1, hC, Gx.rf⟩) (by omega) (by omega) rfl k1 k2 hR hS hl.1 (by simp [y_i]) ?_
  intro h1 H1 locs1 hC1 hM1 hR1 hS1
  refine lv_aload_n hx hb (by decide +kernel : decode code 778 = .ok (.aload_n 2, 1)) rfl (lv_at hl 2 rfl) ?_
  refine y_ld (j := 1) (k := 1) (v := 1) C0 hL hG hS1 (lv_at hl 0 rfl) (lv_at hl 3 rfl) (by decide) (by decide) (by omega) (by decide +kernel) (by decide +kernel) (by decide +kernel) (by decide +kernel) (by decide +kernel) ?_
  refine y_c2 (v0 := .int (Int32.ofInt (((fCount S (xs (i + 1)).toInt, S)).1))) (x := ((fCount S (xs (i + 1)).toInt, S)).1) (S := S) (S' := ((fCount S (xs (i + 1)).toInt, S)).2) (av := [vI (xs (i + 1)).toInt]) C0 hG hKn hC1 hM1 (by decide +kernel) cv_L_113 (sm_count l G h1 S (xs (i + 1)).toInt hM1 (InR_of _) 20 (by omega)) (fun r h' q => by obtain ⟨q1, q2⟩ := q; subst h'; exact ⟨q1, hM1, MF.rf⟩) rfl (by omega) (by omega) hR1 hS1 hl.1 (by simp [y_i]) rfl ?_
  intro h2 H2 locs2 hC2 hM2 hR2 hS2
  refine lv_icmp_eq (tgt := 806) hx hb (by decide +kernel : decode code 787 = .ok (.if_icmp .eq 19, 3)) (by decide) (fun _ => ?_) (fun q => absurd rfl q)
  exact K _ h2 H2 locs2 hC2 hM2 hR2 hS2
set_option maxRecDepth 4000 in
theorem lc_digest {p : Program} {l : Launch} {e : Env} {s : State} {m : MethodId} {below : List Frame} {meth : Method} {c : Code} {b L : Nat} {xs : Nat → Int32} {G : zG} {i cells slots : Nat} {ls : Array Slot} {S : zS} (Y : yA p s m meth c b L xs G i cells slots ls) (K : ∀ S', yJ p l e s m below meth c b G S' (cells + 7) (slots + 92) 806 ls) : yJ p l e s m below meth c b G S cells slots 792 ls := by
  obtain ⟨C0, hL, hG, hKn, hl, hi, k1, k2⟩ := Y
  have hx := C0.1
  have hb := C0.2.1
  intro h H locs hC hM hR hS
  refine lv_aload_n hx hb (by decide +kernel : decode code 792 = .ok (.aload_n 1, 1)) rfl (lv_at hl 1 rfl) ?_
  refine y_callV (rest := []) (av := []) (a := 0) C0 hG hKn (by decide +kernel) cv_L_114 (sp_digest l G h S hC 20 (by omega)) hC.1.1 (by omega) rfl (by omega) (by omega) hR hS hl.1 rfl (by simp) (fun r h1 H1 locs1 hq hR1 hS1 => ?_)
  obtain ⟨rfl, hC1, hg1⟩ := hq
  have hM1 := hM.gx hg1 hC.2.2.2.2.2.2
  refine lv_aload_n hx hb (by decide +kernel : decode code 796 = .ok (.aload_n 2, 1)) rfl (lv_at hl 2 rfl) ?_
  refine y_callV (rest := [.long (Int64.ofInt (fDigest S))]) (av := []) (a := 93) C0 hG hKn (by decide +kernel) cv_L_118 (sm_digest l G h1 S hM1 20 (by omega)) hM1.1.1 (by omega) rfl (by omega) (by omega) hR1 hS1 hl.1 rfl (by simp [Value.category]) (fun r h2 H2 locs2 hq hR2 hS2 => ?_)
  obtain ⟨rfl, hM2, hf2⟩ := hq
  refine W.lcmp hx hb (by decide +kernel : decode code 800 = .ok (.lcmp, 1)) ?_
  refine lv_if_eq (tgt := 806) hx hb (by decide +kernel : decode code 801 = .ok (.ifCond .eq 5, 3)) (by decide) (fun _ => ?_) (fun q => absurd ?_ q)
  · refine W.widen (k := cells + 7) (n := slots + 92) (by omega) (by omega) ?_
    exact K S h2 H2 locs2 (hC1.mf hf2) hM2 hR2 hS2
  · unfold lg_cmp
    simp
