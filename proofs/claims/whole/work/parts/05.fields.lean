def z_cl (c : Nat) : vw_C := vwCl.getD c (RX8, TX8, 22)
theorem z_inP {ws : List Cond} (ps : List Nat) (hp : ws = ps.filterMap (fun i => lw_tbl[i]?)) (hg : ws.all goodWord = true) : ∀ w ∈ ws, w ∈ z_gw := by
  intro w hw
  have h1 := List.all_eq_true.mp hg w hw
  rw [hp] at hw
  obtain ⟨i, -, hi⟩ := List.mem_filterMap.mp hw
  exact z_mem i hi h1
theorem z_in0 : ∀ w ∈ u_ws RX0 TX0 3, w ∈ z_gw := z_inP [221, 223, 225] (by decide +kernel) (by decide +kernel)
theorem z_in1 : ∀ w ∈ u_ws RX1 TX1 15, w ∈ z_gw := z_inP [178, 180, 182, 184, 186, 188, 190, 192, 194, 196, 198, 200, 202, 204, 206] (by decide +kernel) (by decide +kernel)
theorem z_in2 : ∀ w ∈ u_ws RX2 TX2 11, w ∈ z_gw := z_inP [138, 140, 142, 144, 146, 148, 150, 152, 154, 156, 158] (by decide +kernel) (by decide +kernel)
theorem z_in3 : ∀ w ∈ u_ws RX3 TX3 3, w ∈ z_gw := z_inP [246, 248, 250] (by decide +kernel) (by decide +kernel)
theorem z_in4 : ∀ w ∈ u_ws RX4 TX4 6, w ∈ z_gw := z_inP [691, 693, 695, 697, 699, 701] (by decide +kernel) (by decide +kernel)
theorem z_in5 : ∀ w ∈ u_ws RX5 TX5 14, w ∈ z_gw := z_inP [267, 269, 271, 273, 275, 277, 279, 281, 283, 285, 287, 289, 291, 293] (by decide +kernel) (by decide +kernel)
theorem z_in6 : ∀ w ∈ u_ws RX6 TX6 6, w ∈ z_gw := z_inP [107, 109, 111, 113, 115, 117] (by decide +kernel) (by decide +kernel)
theorem z_in7 : ∀ w ∈ u_ws RX7 TX7 6, w ∈ z_gw := z_inP [302, 304, 306, 308, 310, 312] (by decide +kernel) (by decide +kernel)
theorem z_in8 : ∀ w ∈ u_ws RX8 TX8 22, w ∈ z_gw := z_inP [890, 892, 894, 896, 898, 900, 902, 904, 906, 908, 910, 912, 914, 916, 918, 920, 922, 924, 926, 928, 930, 932] (by decide +kernel) (by decide +kernel)
theorem z_clok (c : Nat) (hc : c < 9) : vwCl[c]? = some (z_cl c) ∧ (∀ w ∈ u_ws (z_cl c).1 (z_cl c).2.1 (z_cl c).2.2, w ∈ z_gw) ∧ (∀ k, k < (z_cl c).2.2 → parseFieldDescriptor ((z_cl c).2.1 k).2.2.1 = some (z_ty c k)) ∧ (∀ a, a < (z_cl c).2.2 → ∀ b, b < (z_cl c).2.2 → a ≠ b → ((z_cl c).2.1 a).2.1 ≠ ((z_cl c).2.1 b).2.1) ∧ (z_cl c).2.2 = z_nf c := by
  match c, hc with
  | 0, _ => exact ⟨rfl, z_in0, tyX0_ok, nmX0, rfl⟩
  | 1, _ => exact ⟨rfl, z_in1, tyX1_ok, nmX1, rfl⟩
  | 2, _ => exact ⟨rfl, z_in2, tyX2_ok, nmX2, rfl⟩
  | 3, _ => exact ⟨rfl, z_in3, tyX3_ok, nmX3, rfl⟩
  | 4, _ => exact ⟨rfl, z_in4, tyX4_ok, nmX4, rfl⟩
  | 5, _ => exact ⟨rfl, z_in5, tyX5_ok, nmX5, rfl⟩
  | 6, _ => exact ⟨rfl, z_in6, tyX6_ok, nmX6, rfl⟩
  | 7, _ => exact ⟨rfl, z_in7, tyX7_ok, nmX7, rfl⟩
  | 8, _ => exact ⟨rfl, z_in8, tyX8_ok, nmX8, rfl⟩
  | n + 9, h => omega
theorem z_fs_get {b : Nat} {h : zH} {a c k : Nat} (hk : k < z_nf c) : (z_fs b h a c)[k]? = some (z_fv b h a k (z_ty c k)) := by
  simp [z_fs, hk]
theorem z_fs_len {b : Nat} {h : zH} {a c : Nat} : (z_fs b h a c).length = z_nf c := by simp [z_fs]
theorem z_lt {G : zG} {h : zH} {H : Heap} {a t : Nat} (hR : z_Rel G h H) (hk : (gK h a).1 = t) (ht : t < 14) : a < gS h := by
  rcases Nat.lt_or_ge a (gS h) with q | q
  · exact q
  · have := hR.2.2 a q
    omega
theorem z_cE_o {b : Nat} {ac : Nat → ClassId} {h : zH} {a c : Nat} (hk : (gK h a).1 = c) (hc : c < 9) : z_cE b ac h a = .inr (c, z_fs b h a c) := by
  unfold z_cE
  rw [if_pos (by omega), hk]
theorem z_cE_9 {b : Nat} {ac : Nat → ClassId} {h : zH} {a : Nat} (hk : (gK h a).1 = 9) : z_cE b ac h a = .inl (ac 9, (gK h a).2, .inl (fun j => Int32.ofInt (gI h a j))) := by
  unfold z_cE
  rw [if_neg (by omega), if_pos hk]
theorem z_cE_10 {b : Nat} {ac : Nat → ClassId} {h : zH} {a : Nat} (hk : (gK h a).1 = 10) : z_cE b ac h a = .inl (ac 10, (gK h a).2, .inr (.inl (fun j => Int64.ofInt (gL h a j)))) := by
  unfold z_cE
  rw [if_neg (by omega), if_neg (by omega), if_pos hk]
theorem z_cE_11 {b : Nat} {ac : Nat → ClassId} {h : zH} {a : Nat} (hk : (gK h a).1 = 11) : z_cE b ac h a = .inl (ac 11, (gK h a).2, .inl (fun j => Int32.ofInt (gI h a j))) := by
  unfold z_cE
  rw [if_neg (by omega), if_neg (by omega), if_neg (by omega), if_pos hk]
theorem z_cE_q {b : Nat} {ac : Nat → ClassId} {h : zH} {a t : Nat} (hk : (gK h a).1 = t) (ht : 12 ≤ t) : z_cE b ac h a = .inl (ac t, (gK h a).2, .inr (.inr (.inr (.inr (fun j => (gR h a j).map (b + ·)))))) := by
  unfold z_cE
  rw [if_neg (by omega), if_neg (by omega), if_neg (by omega), if_neg (by omega), hk]
theorem z_at {G : zG} {h : zH} {H : Heap} {a : Nat} {e : va_E} (he : z_cE G.1 G.2.2 h a = e) (ha : a < gS h) : (z_ws G.1 G.2.2 h)[a]? = some (G.1 + a, e) := by rw [z_ws_at ha, he]
/-- a cell's change -/
theorem z_Rel.put {G : zG} {h h' : zH} {H H1 : Heap} {a : Nat} {e : va_E} (hR : z_Rel G h H) (ha : a < gS h) (hs : h'.1 = h.1) (he : z_cE G.1 G.2.2 h' a = e) (ho : ∀ q, q ≠ a → z_cE G.1 G.2.2 h' q = z_cE G.1 G.2.2 h q) (hat : va_at G.2.1 vwCl (G.1 + a, e) H1) (z : H1.size = H.size) (oq : ∀ q, q ≠ G.1 + a → H1[q]? = H[q]?) : z_Rel G h' H1 := by
  have hs2 : gS h' = gS h := by unfold gS; rw [hs]
  have hs3 : gK h' = gK h := by unfold gK; rw [hs]
  exact ⟨by rw [← z_ws_set hs2 he ho]; exact hR.1.set z_ws_D (z_ws_at ha) hat oq, by rw [z, hR.2.1, hs2], by rw [hs2, hs3]; exact hR.2.2⟩
theorem z_cE_ne {b : Nat} {ac : Nat → ClassId} {h h' : zH} {q : Nat} (hs : h'.1 = h.1) (h1 : gI h' q = gI h q) (h2 : gL h' q = gL h q) (h3 : gR h' q = gR h q) : z_cE b ac h' q = z_cE b ac h q := by
  have hs3 : gK h' = gK h := by unfold gK; rw [hs]
  unfold z_cE z_fs z_fv
  rw [hs3, h1, h2, h3]
theorem sI_ne {h : zH} {a k q : Nat} {z : Int} (hq : q ≠ a) : gI (sI h a k z) q = gI h q := by funext j; simp [gI, sI, hq]
theorem sL_ne {h : zH} {a k q : Nat} {z : Int} (hq : q ≠ a) : gL (sL h a k z) q = gL h q := by funext j; simp [gL, sL, hq]
theorem sR_ne {h : zH} {a k q : Nat} {o : Option Nat} (hq : q ≠ a) : gR (sR h a k o) q = gR h q := by funext j; simp [gR, sR, hq]
theorem z_fs_set {b : Nat} {h h' : zH} {a c k : Nat} {v : Value} (hk : k < z_nf c) (hv : z_fv b h' a k (z_ty c k) = v) (ho : ∀ j, j ≠ k → gI h' a j = gI h a j ∧ gL h' a j = gL h a j ∧ gR h' a j = gR h a j) : z_fs b h' a c = (z_fs b h a c).set k v := by
  apply List.ext_getElem?
  intro j
  by_cases hj : j < z_nf c
  · rw [z_fs_get hj]
    by_cases hjk : j = k
    · subst hjk
      rw [List.getElem?_set_self (by rw [z_fs_len]; exact hj), hv]
    · rw [List.getElem?_set_ne (Ne.symm hjk), z_fs_get hj]
      obtain ⟨h1, h2, h3⟩ := ho j hjk
      unfold z_fv
      rw [h1, h2, h3]
  · rw [List.getElem?_eq_none (by rw [z_fs_len]; omega), List.getElem?_eq_none (by rw [List.length_set, z_fs_len]; omega)]

def o_getI (c0 k : Nat) : zO := fun X K Q h pc ls st => pR st fun a r => (gK h a).1 = c0 ∧ K h (pc + 3) ls (vI (gI h a k) :: r)
theorem s_getI {μ : zM} {pc i c0 k : Nat} (hd : decode μ.2.1 pc = .ok (.getfield i, 3)) (hc0 : c0 < 9) (hk : k < z_nf c0) (ht : z_ty c0 k = .int ∨ z_ty c0 k = .boolean) (hw : Cond.fieldLink μ.1.cls i ((z_cl c0).2.1 k).1 ((z_cl c0).2.1 k).2.1 ((z_cl c0).2.1 k).2.2.1 ∈ z_gw) : z_S μ pc (o_getI c0 k) := by
  intro l G lv mc ms Q cells slots K hK h ls st ho
  have ho1 := pR_inv ho
  clear ho
  obtain ⟨a, r, rfl, hka, ho⟩ := ho1
  intro p e s m args below meth c H locs A C hR hS hL hn hc1 hc2 hlv
  obtain ⟨q1, q2, -, -, q5⟩ := z_clok c0 hc0
  have hv : (z_fs G.1 h a c0)[k]? = some (z_mv G.1 (vI (gI h a k))) := by
    rw [z_fs_get hk]
    refine congrArg some ?_
    unfold z_fv; rcases ht with q | q <;> rw [q] <;> rfl
  exact va_get C.1 C.2.1 C.2.2.2.2.2.2.2.1 q2 C.2.2.2.2.2.2.1 C.2.2.2.2.2.2.2.2.1.1 hR.1 a (z_at (H := H) (z_cE_o hka hc0) (z_lt hR hka (by omega))) q1 k (by rw [q5]; exact hk) (C.2.2.2.2.2.2.2.1 _ hw) (fun _ h9 => h9) hv hd (hK _ _ _ _ ho p e s m args below meth c H locs A C hR hS hL hn hc1 hc2 hlv)
theorem s_getIN {μ : zM} {pc i c0 k : Nat} (hd : decode μ.2.1 pc = .ok (.getfield i, 3)) (hc0 : c0 < 9) (hk : k < z_nf c0) (ht : z_ty c0 k = .int ∨ z_ty c0 k = .boolean) {host : String} (hw : Cond.fieldLinkNest μ.1.cls i ((z_cl c0).2.1 k).1 ((z_cl c0).2.1 k).2.1 ((z_cl c0).2.1 k).2.2.1 host ∈ z_nw) : z_S μ pc (o_getI c0 k) := by
  intro l G lv mc ms Q cells slots K hK h ls st ho
  have ho1 := pR_inv ho
  clear ho
  obtain ⟨a, r, rfl, hka, ho⟩ := ho1
  intro p e s m args below meth c H locs A C hR hS hL hn hc1 hc2 hlv
  obtain ⟨q1, q2, -, -, q5⟩ := z_clok c0 hc0
  have hv : (z_fs G.1 h a c0)[k]? = some (z_mv G.1 (vI (gI h a k))) := by
    rw [z_fs_get hk]
    refine congrArg some ?_
    unfold z_fv; rcases ht with q | q <;> rw [q] <;> rfl
  exact va_getN C.1 C.2.1 C.2.2.2.2.2.2.2.1 q2 C.2.2.2.2.2.2.1 C.2.2.2.2.2.2.2.2.1.1 hR.1 a (z_at (H := H) (z_cE_o hka hc0) (z_lt hR hka (by omega))) q1 k (by rw [q5]; exact hk) (va_Nw.use rfl (C.2.2.2.2.2.2.2.2.1.2.1 _ hw)) (fun _ h9 => h9) hv hd (hK _ _ _ _ ho p e s m args below meth c H locs A C hR hS hL hn hc1 hc2 hlv)
def o_getL (c0 k : Nat) : zO := fun X K Q h pc ls st => pR st fun a r => (gK h a).1 = c0 ∧ K h (pc + 3) ls (vL (gL h a k) :: r)
theorem s_getL {μ : zM} {pc i c0 k : Nat} (hd : decode μ.2.1 pc = .ok (.getfield i, 3)) (hc0 : c0 < 9) (hk : k < z_nf c0) (ht : z_ty c0 k = .long) (hw : Cond.fieldLink μ.1.cls i ((z_cl c0).2.1 k).1 ((z_cl c0).2.1 k).2.1 ((z_cl c0).2.1 k).2.2.1 ∈ z_gw) : z_S μ pc (o_getL c0 k) := by
  intro l G lv mc ms Q cells slots K hK h ls st ho
  have ho1 := pR_inv ho
  clear ho
  obtain ⟨a, r, rfl, hka, ho⟩ := ho1
  intro p e s m args below meth c H locs A C hR hS hL hn hc1 hc2 hlv
  obtain ⟨q1, q2, -, -, q5⟩ := z_clok c0 hc0
  have hv : (z_fs G.1 h a c0)[k]? = some (z_mv G.1 (vL (gL h a k))) := by
    rw [z_fs_get hk]
    refine congrArg some ?_
    unfold z_fv; rw [ht]; rfl
  exact va_get C.1 C.2.1 C.2.2.2.2.2.2.2.1 q2 C.2.2.2.2.2.2.1 C.2.2.2.2.2.2.2.2.1.1 hR.1 a (z_at (H := H) (z_cE_o hka hc0) (z_lt hR hka (by omega))) q1 k (by rw [q5]; exact hk) (C.2.2.2.2.2.2.2.1 _ hw) (fun _ h9 => h9) hv hd (hK _ _ _ _ ho p e s m args below meth c H locs A C hR hS hL hn hc1 hc2 hlv)
theorem s_getLN {μ : zM} {pc i c0 k : Nat} (hd : decode μ.2.1 pc = .ok (.getfield i, 3)) (hc0 : c0 < 9) (hk : k < z_nf c0) (ht : z_ty c0 k = .long) {host : String} (hw : Cond.fieldLinkNest μ.1.cls i ((z_cl c0).2.1 k).1 ((z_cl c0).2.1 k).2.1 ((z_cl c0).2.1 k).2.2.1 host ∈ z_nw) : z_S μ pc (o_getL c0 k) := by
  intro l G lv mc ms Q cells slots K hK h ls st ho
  have ho1 := pR_inv ho
  clear ho
  obtain ⟨a, r, rfl, hka, ho⟩ := ho1
  intro p e s m args below meth c H locs A C hR hS hL hn hc1 hc2 hlv
  obtain ⟨q1, q2, -, -, q5⟩ := z_clok c0 hc0
  have hv : (z_fs G.1 h a c0)[k]? = some (z_mv G.1 (vL (gL h a k))) := by
    rw [z_fs_get hk]
    refine congrArg some ?_
    unfold z_fv; rw [ht]; rfl
  exact va_getN C.1 C.2.1 C.2.2.2.2.2.2.2.1 q2 C.2.2.2.2.2.2.1 C.2.2.2.2.2.2.2.2.1.1 hR.1 a (z_at (H := H) (z_cE_o hka hc0) (z_lt hR hka (by omega))) q1 k (by rw [q5]; exact hk) (va_Nw.use rfl (C.2.2.2.2.2.2.2.2.1.2.1 _ hw)) (fun _ h9 => h9) hv hd (hK _ _ _ _ ho p e s m args below meth c H locs A C hR hS hL hn hc1 hc2 hlv)
def o_getR (c0 k : Nat) : zO := fun X K Q h pc ls st => pR st fun a r => (gK h a).1 = c0 ∧ K h (pc + 3) ls (vO (gR h a k) :: r)
theorem s_getR {μ : zM} {pc i c0 k : Nat} (hd : decode μ.2.1 pc = .ok (.getfield i, 3)) (hc0 : c0 < 9) (hk : k < z_nf c0) (ht : (∃ n, z_ty c0 k = .object n) ∨ ∃ t, z_ty c0 k = .array t) (hw : Cond.fieldLink μ.1.cls i ((z_cl c0).2.1 k).1 ((z_cl c0).2.1 k).2.1 ((z_cl c0).2.1 k).2.2.1 ∈ z_gw) : z_S μ pc (o_getR c0 k) := by
  intro l G lv mc ms Q cells slots K hK h ls st ho
  have ho1 := pR_inv ho
  clear ho
  obtain ⟨a, r, rfl, hka, ho⟩ := ho1
  intro p e s m args below meth c H locs A C hR hS hL hn hc1 hc2 hlv
  obtain ⟨q1, q2, -, -, q5⟩ := z_clok c0 hc0
  have hv : (z_fs G.1 h a c0)[k]? = some (z_mv G.1 (vO (gR h a k))) := by
    rw [z_fs_get hk]
    refine congrArg some ?_
    unfold z_fv; rcases ht with ⟨_, q⟩ | ⟨_, q⟩ <;> rw [q] <;> rfl
  exact va_get C.1 C.2.1 C.2.2.2.2.2.2.2.1 q2 C.2.2.2.2.2.2.1 C.2.2.2.2.2.2.2.2.1.1 hR.1 a (z_at (H := H) (z_cE_o hka hc0) (z_lt hR hka (by omega))) q1 k (by rw [q5]; exact hk) (C.2.2.2.2.2.2.2.1 _ hw) (fun _ h9 => h9) hv hd (hK _ _ _ _ ho p e s m args below meth c H locs A C hR hS hL hn hc1 hc2 hlv)
theorem s_getRN {μ : zM} {pc i c0 k : Nat} (hd : decode μ.2.1 pc = .ok (.getfield i, 3)) (hc0 : c0 < 9) (hk : k < z_nf c0) (ht : (∃ n, z_ty c0 k = .object n) ∨ ∃ t, z_ty c0 k = .array t) {host : String} (hw : Cond.fieldLinkNest μ.1.cls i ((z_cl c0).2.1 k).1 ((z_cl c0).2.1 k).2.1 ((z_cl c0).2.1 k).2.2.1 host ∈ z_nw) : z_S μ pc (o_getR c0 k) := by
  intro l G lv mc ms Q cells slots K hK h ls st ho
  have ho1 := pR_inv ho
  clear ho
  obtain ⟨a, r, rfl, hka, ho⟩ := ho1
  intro p e s m args below meth c H locs A C hR hS hL hn hc1 hc2 hlv
  obtain ⟨q1, q2, -, -, q5⟩ := z_clok c0 hc0
  have hv : (z_fs G.1 h a c0)[k]? = some (z_mv G.1 (vO (gR h a k))) := by
    rw [z_fs_get hk]
    refine congrArg some ?_
    unfold z_fv; rcases ht with ⟨_, q⟩ | ⟨_, q⟩ <;> rw [q] <;> rfl
  exact va_getN C.1 C.2.1 C.2.2.2.2.2.2.2.1 q2 C.2.2.2.2.2.2.1 C.2.2.2.2.2.2.2.2.1.1 hR.1 a (z_at (H := H) (z_cE_o hka hc0) (z_lt hR hka (by omega))) q1 k (by rw [q5]; exact hk) (va_Nw.use rfl (C.2.2.2.2.2.2.2.2.1.2.1 _ hw)) (fun _ h9 => h9) hv hd (hK _ _ _ _ ho p e s m args below meth c H locs A C hR hS hL hn hc1 hc2 hlv)
def o_putI (c0 k : Nat) : zO := fun X K Q h pc ls st => pI st fun z r => pR r fun a r => (gK h a).1 = c0 ∧ K (sI h a k z) (pc + 3) ls r
theorem s_putI {μ : zM} {pc i c0 k : Nat} (hd : decode μ.2.1 pc = .ok (.putfield i, 3)) (hc0 : c0 < 9) (hk : k < z_nf c0) (ht : z_ty c0 k = .int) (hw : Cond.fieldLink μ.1.cls i ((z_cl c0).2.1 k).1 ((z_cl c0).2.1 k).2.1 ((z_cl c0).2.1 k).2.2.1 ∈ z_gw) (hf : ((z_cl c0).2.1 k).2.2.2 = false) : z_S μ pc (o_putI c0 k) := by
  intro l G lv mc ms Q cells slots K hK h ls st ho
  have ho1 := pI_inv ho
  clear ho
  obtain ⟨z, r, rfl, ho2⟩ := ho1
  have ho1 := pR_inv ho2
  clear ho2
  obtain ⟨a, r, rfl, hka, ho⟩ := ho1
  intro p e s m args below meth c H locs A C hR hS hL hn hc1 hc2 hlv
  obtain ⟨q1, q2, q3, q4, q5⟩ := z_clok c0 hc0
  have hts := C.2.2.2.2.2.2.2.1
  have hkn := C.2.2.2.2.2.2.2.2.1.1
  have hlt := z_lt hR hka (by omega)
  have hkN : k < (z_cl c0).2.2 := by rw [q5]; exact hk
  have hap := va_apart (own := μ.1.cls) hts q2 (z_ty c0) q3 q4 hkn q1
  obtain ⟨rr, w1, cell, w2, w3, w4, w5⟩ := hR.1 a _ (z_at (H := H) (z_cE_o hka hc0) hlt)
  have hrr : rr = z_cl c0 := Option.some.inj (w1.symm.trans q1)
  subst hrr
  obtain ⟨hSl, hfc, kC, hkC, hkind⟩ := hkn.1 c0 _ q1
  obtain ⟨cf, kf, fi, f, hi, hsl⟩ := hSl k hkN
  obtain ⟨ty, hty, hnr, hft⟩ : ∃ ty, z_ty c0 k = ty ∧ narrow ty (z_mv G.1 (vI z)) = z_mv G.1 (vI z) ∧ fits ty (z_mv G.1 (vI z)) = true := ⟨_, ht, rfl, rfl⟩
  have hd0 := q3 k hkN
  rw [hty] at hd0
  have hlay := hts _ (q2 _ (u_in_lay hkN))
  unfold u_lay at hlay
  have hst := (u_facts hfc hkC (u_lays hts q2 hkN) hi).1
  rw [if_neg (by rw [hf]; decide)] at hlay
  have h6 := u_store hfc hkC hkind hlay hi hd0 hnr hft
  refine W.putK C.1 C.2.1 (f := f) ⟨C.2.2.2.2.2.2.1, (C.2.2.2.2.2.2.2.1 _ hw), ⟨_, _, _, hi⟩, hst⟩ (by rw [w3]; exact h6) w2 w4 (by rw [hsl]; exact k2_hasslot (w5 k hkN)) rfl rfl hd fun H1 e1 e2 e3 => ?_
  rw [hsl] at e1
  have hka' : (gK (sI h a k z) a).1 = c0 := hka
  have hfs : z_fs G.1 (sI h a k z) a c0 = (z_fs G.1 h a c0).set k (z_mv G.1 (vI z)) := z_fs_set hk (by unfold z_fv; rw [ht]; simp [gI, sI, z_mv, vI]) (fun j hj => ⟨by simp [gI, sI, hj], rfl, rfl⟩)
  have hR' : z_Rel G (sI h a k z) H1 := hR.put hlt rfl (z_cE_o hka' hc0) (fun q hq => z_cE_ne rfl (sI_ne hq) rfl rfl) (by
    rw [hfs]
    exact ⟨_, q1, t_OB.to (V := updV (vp_V (z_fs G.1 h a c0)) k (z_mv G.1 (vI z))) ⟨_, e1, w3, w4, t_set w5 hap hkN _⟩ (fun j _ => vp_updV_set (by rw [z_fs_len]; exact hk) _ j)⟩) e2 e3
  exact hK _ _ _ _ ho p e s m args below meth c H1 _ A C hR' (hS.put e2 e3 (Nat.le_add_right _ _)) hL hn hc1 hc2 hlv
theorem s_putIF {μ : zM} {pc i c0 k : Nat} (hd : decode μ.2.1 pc = .ok (.putfield i, 3)) (hc0 : c0 < 9) (hk : k < z_nf c0) (ht : z_ty c0 k = .int) (hw : Cond.fieldLink μ.1.cls i ((z_cl c0).2.1 k).1 ((z_cl c0).2.1 k).2.1 ((z_cl c0).2.1 k).2.2.1 ∈ z_gw) (hf : ((z_cl c0).2.1 k).2.2.2 = true) (hin : μ.1.name = "<init>") (hdc : ((z_cl c0).2.1 k).1 = μ.1.cls) : z_S μ pc (o_putI c0 k) := by
  intro l G lv mc ms Q cells slots K hK h ls st ho
  have ho1 := pI_inv ho
  clear ho
  obtain ⟨z, r, rfl, ho2⟩ := ho1
  have ho1 := pR_inv ho2
  clear ho2
  obtain ⟨a, r, rfl, hka, ho⟩ := ho1
  intro p e s m args below meth c H locs A C hR hS hL hn hc1 hc2 hlv
  obtain ⟨q1, q2, q3, q4, q5⟩ := z_clok c0 hc0
  have hts := C.2.2.2.2.2.2.2.1
  have hkn := C.2.2.2.2.2.2.2.2.1.1
  have hlt := z_lt hR hka (by omega)
  have hkN : k < (z_cl c0).2.2 := by rw [q5]; exact hk
  have hap := va_apart (own := μ.1.cls) hts q2 (z_ty c0) q3 q4 hkn q1
  obtain ⟨rr, w1, cell, w2, w3, w4, w5⟩ := hR.1 a _ (z_at (H := H) (z_cE_o hka hc0) hlt)
  have hrr : rr = z_cl c0 := Option.some.inj (w1.symm.trans q1)
  subst hrr
  obtain ⟨hSl, hfc, kC, hkC, hkind⟩ := hkn.1 c0 _ q1
  obtain ⟨cf, kf, fi, f, hi, hsl⟩ := hSl k hkN
  obtain ⟨ty, hty, hnr, hft⟩ : ∃ ty, z_ty c0 k = ty ∧ narrow ty (z_mv G.1 (vI z)) = z_mv G.1 (vI z) ∧ fits ty (z_mv G.1 (vI z)) = true := ⟨_, ht, rfl, rfl⟩
  have hd0 := q3 k hkN
  rw [hty] at hd0
  have hlay := hts _ (q2 _ (u_in_lay hkN))
  unfold u_lay at hlay
  have hst := (u_facts hfc hkC (u_lays hts q2 hkN) hi).1
  rw [if_pos hf] at hlay
  have hcf : m.cls = cf := by
    obtain ⟨_, _, c', _, _, _, -, -, hf', -, -, -, hown2, -⟩ := Cond.laysFinal_spec hlay
    have e1 : c' = cf := by have := hi.symm.trans hf'; simp at this; exact this.1.symm
    rw [hdc] at hown2
    rw [← e1]
    exact Option.some.inj (C.2.2.2.2.2.2.1.symm.trans hown2)
  have h6 := u_fits hfc hkC hkind (Or.inr hlay) hi hd0 hnr hft
  refine W.putFinK C.1 C.2.1 C.2.2.2.2.2.2.1 (C.2.2.2.2.2.2.2.1 _ hw) hi hst hcf (C.2.2.2.2.2.1.trans hin) (by rw [w3]; exact h6) w2 w4 (by rw [hsl]; exact k2_hasslot (w5 k hkN)) rfl rfl hd fun H1 e1 e2 e3 => ?_
  rw [hsl] at e1
  have hka' : (gK (sI h a k z) a).1 = c0 := hka
  have hfs : z_fs G.1 (sI h a k z) a c0 = (z_fs G.1 h a c0).set k (z_mv G.1 (vI z)) := z_fs_set hk (by unfold z_fv; rw [ht]; simp [gI, sI, z_mv, vI]) (fun j hj => ⟨by simp [gI, sI, hj], rfl, rfl⟩)
  have hR' : z_Rel G (sI h a k z) H1 := hR.put hlt rfl (z_cE_o hka' hc0) (fun q hq => z_cE_ne rfl (sI_ne hq) rfl rfl) (by
    rw [hfs]
    exact ⟨_, q1, t_OB.to (V := updV (vp_V (z_fs G.1 h a c0)) k (z_mv G.1 (vI z))) ⟨_, e1, w3, w4, t_set w5 hap hkN _⟩ (fun j _ => vp_updV_set (by rw [z_fs_len]; exact hk) _ j)⟩) e2 e3
  exact hK _ _ _ _ ho p e s m args below meth c H1 _ A C hR' (hS.put e2 e3 (Nat.le_add_right _ _)) hL hn hc1 hc2 hlv
theorem s_putIN {μ : zM} {pc i c0 k : Nat} (hd : decode μ.2.1 pc = .ok (.putfield i, 3)) (hc0 : c0 < 9) (hk : k < z_nf c0) (ht : z_ty c0 k = .int) {host : String} (hw : Cond.fieldLinkNest μ.1.cls i ((z_cl c0).2.1 k).1 ((z_cl c0).2.1 k).2.1 ((z_cl c0).2.1 k).2.2.1 host ∈ z_nw) (hf : ((z_cl c0).2.1 k).2.2.2 = false) : z_S μ pc (o_putI c0 k) := by
  intro l G lv mc ms Q cells slots K hK h ls st ho
  have ho1 := pI_inv ho
  clear ho
  obtain ⟨z, r, rfl, ho2⟩ := ho1
  have ho1 := pR_inv ho2
  clear ho2
  obtain ⟨a, r, rfl, hka, ho⟩ := ho1
  intro p e s m args below meth c H locs A C hR hS hL hn hc1 hc2 hlv
  obtain ⟨q1, q2, q3, q4, q5⟩ := z_clok c0 hc0
  have hts := C.2.2.2.2.2.2.2.1
  have hkn := C.2.2.2.2.2.2.2.2.1.1
  have hlt := z_lt hR hka (by omega)
  have hkN : k < (z_cl c0).2.2 := by rw [q5]; exact hk
  have hap := va_apart (own := μ.1.cls) hts q2 (z_ty c0) q3 q4 hkn q1
  obtain ⟨rr, w1, cell, w2, w3, w4, w5⟩ := hR.1 a _ (z_at (H := H) (z_cE_o hka hc0) hlt)
  have hrr : rr = z_cl c0 := Option.some.inj (w1.symm.trans q1)
  subst hrr
  obtain ⟨hSl, hfc, kC, hkC, hkind⟩ := hkn.1 c0 _ q1
  obtain ⟨cf, kf, fi, f, hi, hsl⟩ := hSl k hkN
  obtain ⟨ty, hty, hnr, hft⟩ : ∃ ty, z_ty c0 k = ty ∧ narrow ty (z_mv G.1 (vI z)) = z_mv G.1 (vI z) ∧ fits ty (z_mv G.1 (vI z)) = true := ⟨_, ht, rfl, rfl⟩
  have hd0 := q3 k hkN
  rw [hty] at hd0
  have hlay := hts _ (q2 _ (u_in_lay hkN))
  unfold u_lay at hlay
  have hst := (u_facts hfc hkC (u_lays hts q2 hkN) hi).1
  rw [if_neg (by rw [hf]; decide)] at hlay
  have h6 := u_store hfc hkC hkind hlay hi hd0 hnr hft
  refine va_WputK C.1 C.2.1 (f := f) C.2.2.2.2.2.2.1 (va_Nw.use rfl (C.2.2.2.2.2.2.2.2.1.2.1 _ hw)) hi hst (by rw [w3]; exact h6) w2 w4 (by rw [hsl]; exact k2_hasslot (w5 k hkN)) rfl rfl hd fun H1 e1 e2 e3 => ?_
  rw [hsl] at e1
  have hka' : (gK (sI h a k z) a).1 = c0 := hka
  have hfs : z_fs G.1 (sI h a k z) a c0 = (z_fs G.1 h a c0).set k (z_mv G.1 (vI z)) := z_fs_set hk (by unfold z_fv; rw [ht]; simp [gI, sI, z_mv, vI]) (fun j hj => ⟨by simp [gI, sI, hj], rfl, rfl⟩)
  have hR' : z_Rel G (sI h a k z) H1 := hR.put hlt rfl (z_cE_o hka' hc0) (fun q hq => z_cE_ne rfl (sI_ne hq) rfl rfl) (by
    rw [hfs]
    exact ⟨_, q1, t_OB.to (V := updV (vp_V (z_fs G.1 h a c0)) k (z_mv G.1 (vI z))) ⟨_, e1, w3, w4, t_set w5 hap hkN _⟩ (fun j _ => vp_updV_set (by rw [z_fs_len]; exact hk) _ j)⟩) e2 e3
  exact hK _ _ _ _ ho p e s m args below meth c H1 _ A C hR' (hS.put e2 e3 (Nat.le_add_right _ _)) hL hn hc1 hc2 hlv
def o_putZ (c0 k : Nat) : zO := fun X K Q h pc ls st => pI st fun z r => pR r fun a r => (gK h a).1 = c0 ∧ (z = 0 ∨ z = 1) ∧ K (sI h a k z) (pc + 3) ls r
theorem s_putZ {μ : zM} {pc i c0 k : Nat} (hd : decode μ.2.1 pc = .ok (.putfield i, 3)) (hc0 : c0 < 9) (hk : k < z_nf c0) (ht : z_ty c0 k = .boolean) (hw : Cond.fieldLink μ.1.cls i ((z_cl c0).2.1 k).1 ((z_cl c0).2.1 k).2.1 ((z_cl c0).2.1 k).2.2.1 ∈ z_gw) (hf : ((z_cl c0).2.1 k).2.2.2 = false) : z_S μ pc (o_putZ c0 k) := by
  intro l G lv mc ms Q cells slots K hK h ls st ho
  have ho1 := pI_inv ho
  clear ho
  obtain ⟨z, r, rfl, ho2⟩ := ho1
  have ho1 := pR_inv ho2
  clear ho2
  obtain ⟨a, r, rfl, hka, ho⟩ := ho1
  obtain ⟨hz, ho⟩ := ho
  intro p e s m args below meth c H locs A C hR hS hL hn hc1 hc2 hlv
  obtain ⟨q1, q2, q3, q4, q5⟩ := z_clok c0 hc0
  have hts := C.2.2.2.2.2.2.2.1
  have hkn := C.2.2.2.2.2.2.2.2.1.1
  have hlt := z_lt hR hka (by omega)
  have hkN : k < (z_cl c0).2.2 := by rw [q5]; exact hk
  have hap := va_apart (own := μ.1.cls) hts q2 (z_ty c0) q3 q4 hkn q1
  obtain ⟨rr, w1, cell, w2, w3, w4, w5⟩ := hR.1 a _ (z_at (H := H) (z_cE_o hka hc0) hlt)
  have hrr : rr = z_cl c0 := Option.some.inj (w1.symm.trans q1)
  subst hrr
  obtain ⟨hSl, hfc, kC, hkC, hkind⟩ := hkn.1 c0 _ q1
  obtain ⟨cf, kf, fi, f, hi, hsl⟩ := hSl k hkN
  obtain ⟨ty, hty, hnr, hft⟩ : ∃ ty, z_ty c0 k = ty ∧ narrow ty (z_mv G.1 (vI z)) = z_mv G.1 (vI z) ∧ fits ty (z_mv G.1 (vI z)) = true := by
    refine ⟨_, ht, ?_, ?_⟩ <;> rcases hz with rfl | rfl <;> rfl
  have hd0 := q3 k hkN
  rw [hty] at hd0
  have hlay := hts _ (q2 _ (u_in_lay hkN))
  unfold u_lay at hlay
  have hst := (u_facts hfc hkC (u_lays hts q2 hkN) hi).1
  rw [if_neg (by rw [hf]; decide)] at hlay
  have h6 := u_store hfc hkC hkind hlay hi hd0 hnr hft
  refine W.putK C.1 C.2.1 (f := f) ⟨C.2.2.2.2.2.2.1, (C.2.2.2.2.2.2.2.1 _ hw), ⟨_, _, _, hi⟩, hst⟩ (by rw [w3]; exact h6) w2 w4 (by rw [hsl]; exact k2_hasslot (w5 k hkN)) rfl rfl hd fun H1 e1 e2 e3 => ?_
  rw [hsl] at e1
  have hka' : (gK (sI h a k z) a).1 = c0 := hka
  have hfs : z_fs G.1 (sI h a k z) a c0 = (z_fs G.1 h a c0).set k (z_mv G.1 (vI z)) := z_fs_set hk (by unfold z_fv; rw [ht]; simp [gI, sI, z_mv, vI]) (fun j hj => ⟨by simp [gI, sI, hj], rfl, rfl⟩)
  have hR' : z_Rel G (sI h a k z) H1 := hR.put hlt rfl (z_cE_o hka' hc0) (fun q hq => z_cE_ne rfl (sI_ne hq) rfl rfl) (by
    rw [hfs]
    exact ⟨_, q1, t_OB.to (V := updV (vp_V (z_fs G.1 h a c0)) k (z_mv G.1 (vI z))) ⟨_, e1, w3, w4, t_set w5 hap hkN _⟩ (fun j _ => vp_updV_set (by rw [z_fs_len]; exact hk) _ j)⟩) e2 e3
  exact hK _ _ _ _ ho p e s m args below meth c H1 _ A C hR' (hS.put e2 e3 (Nat.le_add_right _ _)) hL hn hc1 hc2 hlv
theorem s_putZF {μ : zM} {pc i c0 k : Nat} (hd : decode μ.2.1 pc = .ok (.putfield i, 3)) (hc0 : c0 < 9) (hk : k < z_nf c0) (ht : z_ty c0 k = .boolean) (hw : Cond.fieldLink μ.1.cls i ((z_cl c0).2.1 k).1 ((z_cl c0).2.1 k).2.1 ((z_cl c0).2.1 k).2.2.1 ∈ z_gw) (hf : ((z_cl c0).2.1 k).2.2.2 = true) (hin : μ.1.name = "<init>") (hdc : ((z_cl c0).2.1 k).1 = μ.1.cls) : z_S μ pc (o_putZ c0 k) := by
  intro l G lv mc ms Q cells slots K hK h ls st ho
  have ho1 := pI_inv ho
  clear ho
  obtain ⟨z, r, rfl, ho2⟩ := ho1
  have ho1 := pR_inv ho2
  clear ho2
  obtain ⟨a, r, rfl, hka, ho⟩ := ho1
  obtain ⟨hz, ho⟩ := ho
  intro p e s m args below meth c H locs A C hR hS hL hn hc1 hc2 hlv
  obtain ⟨q1, q2, q3, q4, q5⟩ := z_clok c0 hc0
  have hts := C.2.2.2.2.2.2.2.1
  have hkn := C.2.2.2.2.2.2.2.2.1.1
  have hlt := z_lt hR hka (by omega)
  have hkN : k < (z_cl c0).2.2 := by rw [q5]; exact hk
  have hap := va_apart (own := μ.1.cls) hts q2 (z_ty c0) q3 q4 hkn q1
  obtain ⟨rr, w1, cell, w2, w3, w4, w5⟩ := hR.1 a _ (z_at (H := H) (z_cE_o hka hc0) hlt)
  have hrr : rr = z_cl c0 := Option.some.inj (w1.symm.trans q1)
  subst hrr
  obtain ⟨hSl, hfc, kC, hkC, hkind⟩ := hkn.1 c0 _ q1
  obtain ⟨cf, kf, fi, f, hi, hsl⟩ := hSl k hkN
  obtain ⟨ty, hty, hnr, hft⟩ : ∃ ty, z_ty c0 k = ty ∧ narrow ty (z_mv G.1 (vI z)) = z_mv G.1 (vI z) ∧ fits ty (z_mv G.1 (vI z)) = true := by
    refine ⟨_, ht, ?_, ?_⟩ <;> rcases hz with rfl | rfl <;> rfl
  have hd0 := q3 k hkN
  rw [hty] at hd0
  have hlay := hts _ (q2 _ (u_in_lay hkN))
  unfold u_lay at hlay
  have hst := (u_facts hfc hkC (u_lays hts q2 hkN) hi).1
  rw [if_pos hf] at hlay
  have hcf : m.cls = cf := by
    obtain ⟨_, _, c', _, _, _, -, -, hf', -, -, -, hown2, -⟩ := Cond.laysFinal_spec hlay
    have e1 : c' = cf := by have := hi.symm.trans hf'; simp at this; exact this.1.symm
    rw [hdc] at hown2
    rw [← e1]
    exact Option.some.inj (C.2.2.2.2.2.2.1.symm.trans hown2)
  have h6 := u_fits hfc hkC hkind (Or.inr hlay) hi hd0 hnr hft
  refine W.putFinK C.1 C.2.1 C.2.2.2.2.2.2.1 (C.2.2.2.2.2.2.2.1 _ hw) hi hst hcf (C.2.2.2.2.2.1.trans hin) (by rw [w3]; exact h6) w2 w4 (by rw [hsl]; exact k2_hasslot (w5 k hkN)) rfl rfl hd fun H1 e1 e2 e3 => ?_
  rw [hsl] at e1
  have hka' : (gK (sI h a k z) a).1 = c0 := hka
  have hfs : z_fs G.1 (sI h a k z) a c0 = (z_fs G.1 h a c0).set k (z_mv G.1 (vI z)) := z_fs_set hk (by unfold z_fv; rw [ht]; simp [gI, sI, z_mv, vI]) (fun j hj => ⟨by simp [gI, sI, hj], rfl, rfl⟩)
  have hR' : z_Rel G (sI h a k z) H1 := hR.put hlt rfl (z_cE_o hka' hc0) (fun q hq => z_cE_ne rfl (sI_ne hq) rfl rfl) (by
    rw [hfs]
    exact ⟨_, q1, t_OB.to (V := updV (vp_V (z_fs G.1 h a c0)) k (z_mv G.1 (vI z))) ⟨_, e1, w3, w4, t_set w5 hap hkN _⟩ (fun j _ => vp_updV_set (by rw [z_fs_len]; exact hk) _ j)⟩) e2 e3
  exact hK _ _ _ _ ho p e s m args below meth c H1 _ A C hR' (hS.put e2 e3 (Nat.le_add_right _ _)) hL hn hc1 hc2 hlv
theorem s_putZN {μ : zM} {pc i c0 k : Nat} (hd : decode μ.2.1 pc = .ok (.putfield i, 3)) (hc0 : c0 < 9) (hk : k < z_nf c0) (ht : z_ty c0 k = .boolean) {host : String} (hw : Cond.fieldLinkNest μ.1.cls i ((z_cl c0).2.1 k).1 ((z_cl c0).2.1 k).2.1 ((z_cl c0).2.1 k).2.2.1 host ∈ z_nw) (hf : ((z_cl c0).2.1 k).2.2.2 = false) : z_S μ pc (o_putZ c0 k) := by
  intro l G lv mc ms Q cells slots K hK h ls st ho
  have ho1 := pI_inv ho
  clear ho
  obtain ⟨z, r, rfl, ho2⟩ := ho1
  have ho1 := pR_inv ho2
  clear ho2
  obtain ⟨a, r, rfl, hka, ho⟩ := ho1
  obtain ⟨hz, ho⟩ := ho
  intro p e s m args below meth c H locs A C hR hS hL hn hc1 hc2 hlv
  obtain ⟨q1, q2, q3, q4, q5⟩ := z_clok c0 hc0
  have hts := C.2.2.2.2.2.2.2.1
  have hkn := C.2.2.2.2.2.2.2.2.1.1
  have hlt := z_lt hR hka (by omega)
  have hkN : k < (z_cl c0).2.2 := by rw [q5]; exact hk
  have hap := va_apart (own := μ.1.cls) hts q2 (z_ty c0) q3 q4 hkn q1
  obtain ⟨rr, w1, cell, w2, w3, w4, w5⟩ := hR.1 a _ (z_at (H := H) (z_cE_o hka hc0) hlt)
  have hrr : rr = z_cl c0 := Option.some.inj (w1.symm.trans q1)
  subst hrr
  obtain ⟨hSl, hfc, kC, hkC, hkind⟩ := hkn.1 c0 _ q1
  obtain ⟨cf, kf, fi, f, hi, hsl⟩ := hSl k hkN
  obtain ⟨ty, hty, hnr, hft⟩ : ∃ ty, z_ty c0 k = ty ∧ narrow ty (z_mv G.1 (vI z)) = z_mv G.1 (vI z) ∧ fits ty (z_mv G.1 (vI z)) = true := by
    refine ⟨_, ht, ?_, ?_⟩ <;> rcases hz with rfl | rfl <;> rfl
  have hd0 := q3 k hkN
  rw [hty] at hd0
  have hlay := hts _ (q2 _ (u_in_lay hkN))
  unfold u_lay at hlay
  have hst := (u_facts hfc hkC (u_lays hts q2 hkN) hi).1
  rw [if_neg (by rw [hf]; decide)] at hlay
  have h6 := u_store hfc hkC hkind hlay hi hd0 hnr hft
  refine va_WputK C.1 C.2.1 (f := f) C.2.2.2.2.2.2.1 (va_Nw.use rfl (C.2.2.2.2.2.2.2.2.1.2.1 _ hw)) hi hst (by rw [w3]; exact h6) w2 w4 (by rw [hsl]; exact k2_hasslot (w5 k hkN)) rfl rfl hd fun H1 e1 e2 e3 => ?_
  rw [hsl] at e1
  have hka' : (gK (sI h a k z) a).1 = c0 := hka
  have hfs : z_fs G.1 (sI h a k z) a c0 = (z_fs G.1 h a c0).set k (z_mv G.1 (vI z)) := z_fs_set hk (by unfold z_fv; rw [ht]; simp [gI, sI, z_mv, vI]) (fun j hj => ⟨by simp [gI, sI, hj], rfl, rfl⟩)
  have hR' : z_Rel G (sI h a k z) H1 := hR.put hlt rfl (z_cE_o hka' hc0) (fun q hq => z_cE_ne rfl (sI_ne hq) rfl rfl) (by
    rw [hfs]
    exact ⟨_, q1, t_OB.to (V := updV (vp_V (z_fs G.1 h a c0)) k (z_mv G.1 (vI z))) ⟨_, e1, w3, w4, t_set w5 hap hkN _⟩ (fun j _ => vp_updV_set (by rw [z_fs_len]; exact hk) _ j)⟩) e2 e3
  exact hK _ _ _ _ ho p e s m args below meth c H1 _ A C hR' (hS.put e2 e3 (Nat.le_add_right _ _)) hL hn hc1 hc2 hlv
def o_putL (c0 k : Nat) : zO := fun X K Q h pc ls st => pL st fun z r => pR r fun a r => (gK h a).1 = c0 ∧ K (sL h a k z) (pc + 3) ls r
theorem s_putL {μ : zM} {pc i c0 k : Nat} (hd : decode μ.2.1 pc = .ok (.putfield i, 3)) (hc0 : c0 < 9) (hk : k < z_nf c0) (ht : z_ty c0 k = .long) (hw : Cond.fieldLink μ.1.cls i ((z_cl c0).2.1 k).1 ((z_cl c0).2.1 k).2.1 ((z_cl c0).2.1 k).2.2.1 ∈ z_gw) (hf : ((z_cl c0).2.1 k).2.2.2 = false) : z_S μ pc (o_putL c0 k) := by
  intro l G lv mc ms Q cells slots K hK h ls st ho
  have ho1 := pL_inv ho
  clear ho
  obtain ⟨z, r, rfl, ho2⟩ := ho1
  have ho1 := pR_inv ho2
  clear ho2
  obtain ⟨a, r, rfl, hka, ho⟩ := ho1
  intro p e s m args below meth c H locs A C hR hS hL hn hc1 hc2 hlv
  obtain ⟨q1, q2, q3, q4, q5⟩ := z_clok c0 hc0
  have hts := C.2.2.2.2.2.2.2.1
  have hkn := C.2.2.2.2.2.2.2.2.1.1
  have hlt := z_lt hR hka (by omega)
  have hkN : k < (z_cl c0).2.2 := by rw [q5]; exact hk
  have hap := va_apart (own := μ.1.cls) hts q2 (z_ty c0) q3 q4 hkn q1
  obtain ⟨rr, w1, cell, w2, w3, w4, w5⟩ := hR.1 a _ (z_at (H := H) (z_cE_o hka hc0) hlt)
  have hrr : rr = z_cl c0 := Option.some.inj (w1.symm.trans q1)
  subst hrr
  obtain ⟨hSl, hfc, kC, hkC, hkind⟩ := hkn.1 c0 _ q1
  obtain ⟨cf, kf, fi, f, hi, hsl⟩ := hSl k hkN
  obtain ⟨ty, hty, hnr, hft⟩ : ∃ ty, z_ty c0 k = ty ∧ narrow ty (z_mv G.1 (vL z)) = z_mv G.1 (vL z) ∧ fits ty (z_mv G.1 (vL z)) = true := ⟨_, ht, rfl, rfl⟩
  have hd0 := q3 k hkN
  rw [hty] at hd0
  have hlay := hts _ (q2 _ (u_in_lay hkN))
  unfold u_lay at hlay
  have hst := (u_facts hfc hkC (u_lays hts q2 hkN) hi).1
  rw [if_neg (by rw [hf]; decide)] at hlay
  have h6 := u_store hfc hkC hkind hlay hi hd0 hnr hft
  refine W.putK C.1 C.2.1 (f := f) ⟨C.2.2.2.2.2.2.1, (C.2.2.2.2.2.2.2.1 _ hw), ⟨_, _, _, hi⟩, hst⟩ (by rw [w3]; exact h6) w2 w4 (by rw [hsl]; exact k2_hasslot (w5 k hkN)) rfl rfl hd fun H1 e1 e2 e3 => ?_
  rw [hsl] at e1
  have hka' : (gK (sL h a k z) a).1 = c0 := hka
  have hfs : z_fs G.1 (sL h a k z) a c0 = (z_fs G.1 h a c0).set k (z_mv G.1 (vL z)) := z_fs_set hk (by unfold z_fv; rw [ht]; simp [gL, sL, z_mv, vL]) (fun j hj => ⟨rfl, by simp [gL, sL, hj], rfl⟩)
  have hR' : z_Rel G (sL h a k z) H1 := hR.put hlt rfl (z_cE_o hka' hc0) (fun q hq => z_cE_ne rfl rfl (sL_ne hq) rfl) (by
    rw [hfs]
    exact ⟨_, q1, t_OB.to (V := updV (vp_V (z_fs G.1 h a c0)) k (z_mv G.1 (vL z))) ⟨_, e1, w3, w4, t_set w5 hap hkN _⟩ (fun j _ => vp_updV_set (by rw [z_fs_len]; exact hk) _ j)⟩) e2 e3
  exact hK _ _ _ _ ho p e s m args below meth c H1 _ A C hR' (hS.put e2 e3 (Nat.le_add_right _ _)) hL hn hc1 hc2 hlv
theorem s_putLF {μ : zM} {pc i c0 k : Nat} (hd : decode μ.2.1 pc = .ok (.putfield i, 3)) (hc0 : c0 < 9) (hk : k < z_nf c0) (ht : z_ty c0 k = .long) (hw : Cond.fieldLink μ.1.cls i ((z_cl c0).2.1 k).1 ((z_cl c0).2.1 k).2.1 ((z_cl c0).2.1 k).2.2.1 ∈ z_gw) (hf : ((z_cl c0).2.1 k).2.2.2 = true) (hin : μ.1.name = "<init>") (hdc : ((z_cl c0).2.1 k).1 = μ.1.cls) : z_S μ pc (o_putL c0 k) := by
  intro l G lv mc ms Q cells slots K hK h ls st ho
  have ho1 := pL_inv ho
  clear ho
  obtain ⟨z, r, rfl, ho2⟩ := ho1
  have ho1 := pR_inv ho2
  clear ho2
  obtain ⟨a, r, rfl, hka, ho⟩ := ho1
  intro p e s m args below meth c H locs A C hR hS hL hn hc1 hc2 hlv
  obtain ⟨q1, q2, q3, q4, q5⟩ := z_clok c0 hc0
  have hts := C.2.2.2.2.2.2.2.1
  have hkn := C.2.2.2.2.2.2.2.2.1.1
  have hlt := z_lt hR hka (by omega)
  have hkN : k < (z_cl c0).2.2 := by rw [q5]; exact hk
  have hap := va_apart (own := μ.1.cls) hts q2 (z_ty c0) q3 q4 hkn q1
  obtain ⟨rr, w1, cell, w2, w3, w4, w5⟩ := hR.1 a _ (z_at (H := H) (z_cE_o hka hc0) hlt)
  have hrr : rr = z_cl c0 := Option.some.inj (w1.symm.trans q1)
  subst hrr
  obtain ⟨hSl, hfc, kC, hkC, hkind⟩ := hkn.1 c0 _ q1
  obtain ⟨cf, kf, fi, f, hi, hsl⟩ := hSl k hkN
  obtain ⟨ty, hty, hnr, hft⟩ : ∃ ty, z_ty c0 k = ty ∧ narrow ty (z_mv G.1 (vL z)) = z_mv G.1 (vL z) ∧ fits ty (z_mv G.1 (vL z)) = true := ⟨_, ht, rfl, rfl⟩
  have hd0 := q3 k hkN
  rw [hty] at hd0
  have hlay := hts _ (q2 _ (u_in_lay hkN))
  unfold u_lay at hlay
  have hst := (u_facts hfc hkC (u_lays hts q2 hkN) hi).1
  rw [if_pos hf] at hlay
  have hcf : m.cls = cf := by
    obtain ⟨_, _, c', _, _, _, -, -, hf', -, -, -, hown2, -⟩ := Cond.laysFinal_spec hlay
    have e1 : c' = cf := by have := hi.symm.trans hf'; simp at this; exact this.1.symm
    rw [hdc] at hown2
    rw [← e1]
    exact Option.some.inj (C.2.2.2.2.2.2.1.symm.trans hown2)
  have h6 := u_fits hfc hkC hkind (Or.inr hlay) hi hd0 hnr hft
  refine W.putFinK C.1 C.2.1 C.2.2.2.2.2.2.1 (C.2.2.2.2.2.2.2.1 _ hw) hi hst hcf (C.2.2.2.2.2.1.trans hin) (by rw [w3]; exact h6) w2 w4 (by rw [hsl]; exact k2_hasslot (w5 k hkN)) rfl rfl hd fun H1 e1 e2 e3 => ?_
  rw [hsl] at e1
  have hka' : (gK (sL h a k z) a).1 = c0 := hka
  have hfs : z_fs G.1 (sL h a k z) a c0 = (z_fs G.1 h a c0).set k (z_mv G.1 (vL z)) := z_fs_set hk (by unfold z_fv; rw [ht]; simp [gL, sL, z_mv, vL]) (fun j hj => ⟨rfl, by simp [gL, sL, hj], rfl⟩)
  have hR' : z_Rel G (sL h a k z) H1 := hR.put hlt rfl (z_cE_o hka' hc0) (fun q hq => z_cE_ne rfl rfl (sL_ne hq) rfl) (by
    rw [hfs]
    exact ⟨_, q1, t_OB.to (V := updV (vp_V (z_fs G.1 h a c0)) k (z_mv G.1 (vL z))) ⟨_, e1, w3, w4, t_set w5 hap hkN _⟩ (fun j _ => vp_updV_set (by rw [z_fs_len]; exact hk) _ j)⟩) e2 e3
  exact hK _ _ _ _ ho p e s m args below meth c H1 _ A C hR' (hS.put e2 e3 (Nat.le_add_right _ _)) hL hn hc1 hc2 hlv
theorem s_putLN {μ : zM} {pc i c0 k : Nat} (hd : decode μ.2.1 pc = .ok (.putfield i, 3)) (hc0 : c0 < 9) (hk : k < z_nf c0) (ht : z_ty c0 k = .long) {host : String} (hw : Cond.fieldLinkNest μ.1.cls i ((z_cl c0).2.1 k).1 ((z_cl c0).2.1 k).2.1 ((z_cl c0).2.1 k).2.2.1 host ∈ z_nw) (hf : ((z_cl c0).2.1 k).2.2.2 = false) : z_S μ pc (o_putL c0 k) := by
  intro l G lv mc ms Q cells slots K hK h ls st ho
  have ho1 := pL_inv ho
  clear ho
  obtain ⟨z, r, rfl, ho2⟩ := ho1
  have ho1 := pR_inv ho2
  clear ho2
  obtain ⟨a, r, rfl, hka, ho⟩ := ho1
  intro p e s m args below meth c H locs A C hR hS hL hn hc1 hc2 hlv
  obtain ⟨q1, q2, q3, q4, q5⟩ := z_clok c0 hc0
  have hts := C.2.2.2.2.2.2.2.1
  have hkn := C.2.2.2.2.2.2.2.2.1.1
  have hlt := z_lt hR hka (by omega)
  have hkN : k < (z_cl c0).2.2 := by rw [q5]; exact hk
  have hap := va_apart (own := μ.1.cls) hts q2 (z_ty c0) q3 q4 hkn q1
  obtain ⟨rr, w1, cell, w2, w3, w4, w5⟩ := hR.1 a _ (z_at (H := H) (z_cE_o hka hc0) hlt)
  have hrr : rr = z_cl c0 := Option.some.inj (w1.symm.trans q1)
  subst hrr
  obtain ⟨hSl, hfc, kC, hkC, hkind⟩ := hkn.1 c0 _ q1
  obtain ⟨cf, kf, fi, f, hi, hsl⟩ := hSl k hkN
  obtain ⟨ty, hty, hnr, hft⟩ : ∃ ty, z_ty c0 k = ty ∧ narrow ty (z_mv G.1 (vL z)) = z_mv G.1 (vL z) ∧ fits ty (z_mv G.1 (vL z)) = true := ⟨_, ht, rfl, rfl⟩
  have hd0 := q3 k hkN
  rw [hty] at hd0
  have hlay := hts _ (q2 _ (u_in_lay hkN))
  unfold u_lay at hlay
  have hst := (u_facts hfc hkC (u_lays hts q2 hkN) hi).1
  rw [if_neg (by rw [hf]; decide)] at hlay
  have h6 := u_store hfc hkC hkind hlay hi hd0 hnr hft
  refine va_WputK C.1 C.2.1 (f := f) C.2.2.2.2.2.2.1 (va_Nw.use rfl (C.2.2.2.2.2.2.2.2.1.2.1 _ hw)) hi hst (by rw [w3]; exact h6) w2 w4 (by rw [hsl]; exact k2_hasslot (w5 k hkN)) rfl rfl hd fun H1 e1 e2 e3 => ?_
  rw [hsl] at e1
  have hka' : (gK (sL h a k z) a).1 = c0 := hka
  have hfs : z_fs G.1 (sL h a k z) a c0 = (z_fs G.1 h a c0).set k (z_mv G.1 (vL z)) := z_fs_set hk (by unfold z_fv; rw [ht]; simp [gL, sL, z_mv, vL]) (fun j hj => ⟨rfl, by simp [gL, sL, hj], rfl⟩)
  have hR' : z_Rel G (sL h a k z) H1 := hR.put hlt rfl (z_cE_o hka' hc0) (fun q hq => z_cE_ne rfl rfl (sL_ne hq) rfl) (by
    rw [hfs]
    exact ⟨_, q1, t_OB.to (V := updV (vp_V (z_fs G.1 h a c0)) k (z_mv G.1 (vL z))) ⟨_, e1, w3, w4, t_set w5 hap hkN _⟩ (fun j _ => vp_updV_set (by rw [z_fs_len]; exact hk) _ j)⟩) e2 e3
  exact hK _ _ _ _ ho p e s m args below meth c H1 _ A C hR' (hS.put e2 e3 (Nat.le_add_right _ _)) hL hn hc1 hc2 hlv
def o_putR (c0 k : Nat) : zO := fun X K Q h pc ls st => pO st fun z r => pR r fun a r => (gK h a).1 = c0 ∧ K (sR h a k z) (pc + 3) ls r
theorem s_putR {μ : zM} {pc i c0 k : Nat} (hd : decode μ.2.1 pc = .ok (.putfield i, 3)) (hc0 : c0 < 9) (hk : k < z_nf c0) (ht : (∃ n, z_ty c0 k = .object n) ∨ ∃ t, z_ty c0 k = .array t) (hw : Cond.fieldLink μ.1.cls i ((z_cl c0).2.1 k).1 ((z_cl c0).2.1 k).2.1 ((z_cl c0).2.1 k).2.2.1 ∈ z_gw) (hf : ((z_cl c0).2.1 k).2.2.2 = false) : z_S μ pc (o_putR c0 k) := by
  intro l G lv mc ms Q cells slots K hK h ls st ho
  have ho1 := pO_inv ho
  clear ho
  obtain ⟨z, r, rfl, ho2⟩ := ho1
  have ho1 := pR_inv ho2
  clear ho2
  obtain ⟨a, r, rfl, hka, ho⟩ := ho1
  intro p e s m args below meth c H locs A C hR hS hL hn hc1 hc2 hlv
  obtain ⟨q1, q2, q3, q4, q5⟩ := z_clok c0 hc0
  have hts := C.2.2.2.2.2.2.2.1
  have hkn := C.2.2.2.2.2.2.2.2.1.1
  have hlt := z_lt hR hka (by omega)
  have hkN : k < (z_cl c0).2.2 := by rw [q5]; exact hk
  have hap := va_apart (own := μ.1.cls) hts q2 (z_ty c0) q3 q4 hkn q1
  obtain ⟨rr, w1, cell, w2, w3, w4, w5⟩ := hR.1 a _ (z_at (H := H) (z_cE_o hka hc0) hlt)
  have hrr : rr = z_cl c0 := Option.some.inj (w1.symm.trans q1)
  subst hrr
  obtain ⟨hSl, hfc, kC, hkC, hkind⟩ := hkn.1 c0 _ q1
  obtain ⟨cf, kf, fi, f, hi, hsl⟩ := hSl k hkN
  obtain ⟨ty, hty, hnr, hft⟩ : ∃ ty, z_ty c0 k = ty ∧ narrow ty (z_mv G.1 (vO z)) = z_mv G.1 (vO z) ∧ fits ty (z_mv G.1 (vO z)) = true := by
    rcases ht with ⟨n, q⟩ | ⟨t, q⟩ <;> refine ⟨_, q, ?_, ?_⟩ <;> cases z <;> rfl
  have hd0 := q3 k hkN
  rw [hty] at hd0
  have hlay := hts _ (q2 _ (u_in_lay hkN))
  unfold u_lay at hlay
  have hst := (u_facts hfc hkC (u_lays hts q2 hkN) hi).1
  rw [if_neg (by rw [hf]; decide)] at hlay
  have h6 := u_store hfc hkC hkind hlay hi hd0 hnr hft
  refine W.putK C.1 C.2.1 (f := f) ⟨C.2.2.2.2.2.2.1, (C.2.2.2.2.2.2.2.1 _ hw), ⟨_, _, _, hi⟩, hst⟩ (by rw [w3]; exact h6) w2 w4 (by rw [hsl]; exact k2_hasslot (w5 k hkN)) rfl rfl hd fun H1 e1 e2 e3 => ?_
  rw [hsl] at e1
  have hka' : (gK (sR h a k z) a).1 = c0 := hka
  have hfs : z_fs G.1 (sR h a k z) a c0 = (z_fs G.1 h a c0).set k (z_mv G.1 (vO z)) := z_fs_set hk (by unfold z_fv; rcases ht with ⟨_, q⟩ | ⟨_, q⟩ <;> rw [q] <;> simp [gR, sR, z_mv, vO]) (fun j hj => ⟨rfl, rfl, by simp [gR, sR, hj]⟩)
  have hR' : z_Rel G (sR h a k z) H1 := hR.put hlt rfl (z_cE_o hka' hc0) (fun q hq => z_cE_ne rfl rfl rfl (sR_ne hq)) (by
    rw [hfs]
    exact ⟨_, q1, t_OB.to (V := updV (vp_V (z_fs G.1 h a c0)) k (z_mv G.1 (vO z))) ⟨_, e1, w3, w4, t_set w5 hap hkN _⟩ (fun j _ => vp_updV_set (by rw [z_fs_len]; exact hk) _ j)⟩) e2 e3
  exact hK _ _ _ _ ho p e s m args below meth c H1 _ A C hR' (hS.put e2 e3 (Nat.le_add_right _ _)) hL hn hc1 hc2 hlv
theorem s_putRF {μ : zM} {pc i c0 k : Nat} (hd : decode μ.2.1 pc = .ok (.putfield i, 3)) (hc0 : c0 < 9) (hk : k < z_nf c0) (ht : (∃ n, z_ty c0 k = .object n) ∨ ∃ t, z_ty c0 k = .array t) (hw : Cond.fieldLink μ.1.cls i ((z_cl c0).2.1 k).1 ((z_cl c0).2.1 k).2.1 ((z_cl c0).2.1 k).2.2.1 ∈ z_gw) (hf : ((z_cl c0).2.1 k).2.2.2 = true) (hin : μ.1.name = "<init>") (hdc : ((z_cl c0).2.1 k).1 = μ.1.cls) : z_S μ pc (o_putR c0 k) := by
  intro l G lv mc ms Q cells slots K hK h ls st ho
  have ho1 := pO_inv ho
  clear ho
  obtain ⟨z, r, rfl, ho2⟩ := ho1
  have ho1 := pR_inv ho2
  clear ho2
  obtain ⟨a, r, rfl, hka, ho⟩ := ho1
  intro p e s m args below meth c H locs A C hR hS hL hn hc1 hc2 hlv
  obtain ⟨q1, q2, q3, q4, q5⟩ := z_clok c0 hc0
  have hts := C.2.2.2.2.2.2.2.1
  have hkn := C.2.2.2.2.2.2.2.2.1.1
  have hlt := z_lt hR hka (by omega)
  have hkN : k < (z_cl c0).2.2 := by rw [q5]; exact hk
  have hap := va_apart (own := μ.1.cls) hts q2 (z_ty c0) q3 q4 hkn q1
  obtain ⟨rr, w1, cell, w2, w3, w4, w5⟩ := hR.1 a _ (z_at (H := H) (z_cE_o hka hc0) hlt)
  have hrr : rr = z_cl c0 := Option.some.inj (w1.symm.trans q1)
  subst hrr
  obtain ⟨hSl, hfc, kC, hkC, hkind⟩ := hkn.1 c0 _ q1
  obtain ⟨cf, kf, fi, f, hi, hsl⟩ := hSl k hkN
  obtain ⟨ty, hty, hnr, hft⟩ : ∃ ty, z_ty c0 k = ty ∧ narrow ty (z_mv G.1 (vO z)) = z_mv G.1 (vO z) ∧ fits ty (z_mv G.1 (vO z)) = true := by
    rcases ht with ⟨n, q⟩ | ⟨t, q⟩ <;> refine ⟨_, q, ?_, ?_⟩ <;> cases z <;> rfl
  have hd0 := q3 k hkN
  rw [hty] at hd0
  have hlay := hts _ (q2 _ (u_in_lay hkN))
  unfold u_lay at hlay
  have hst := (u_facts hfc hkC (u_lays hts q2 hkN) hi).1
  rw [if_pos hf] at hlay
  have hcf : m.cls = cf := by
    obtain ⟨_, _, c', _, _, _, -, -, hf', -, -, -, hown2, -⟩ := Cond.laysFinal_spec hlay
    have e1 : c' = cf := by have := hi.symm.trans hf'; simp at this; exact this.1.symm
    rw [hdc] at hown2
    rw [← e1]
    exact Option.some.inj (C.2.2.2.2.2.2.1.symm.trans hown2)
  have h6 := u_fits hfc hkC hkind (Or.inr hlay) hi hd0 hnr hft
  refine W.putFinK C.1 C.2.1 C.2.2.2.2.2.2.1 (C.2.2.2.2.2.2.2.1 _ hw) hi hst hcf (C.2.2.2.2.2.1.trans hin) (by rw [w3]; exact h6) w2 w4 (by rw [hsl]; exact k2_hasslot (w5 k hkN)) rfl rfl hd fun H1 e1 e2 e3 => ?_
  rw [hsl] at e1
  have hka' : (gK (sR h a k z) a).1 = c0 := hka
  have hfs : z_fs G.1 (sR h a k z) a c0 = (z_fs G.1 h a c0).set k (z_mv G.1 (vO z)) := z_fs_set hk (by unfold z_fv; rcases ht with ⟨_, q⟩ | ⟨_, q⟩ <;> rw [q] <;> simp [gR, sR, z_mv, vO]) (fun j hj => ⟨rfl, rfl, by simp [gR, sR, hj]⟩)
  have hR' : z_Rel G (sR h a k z) H1 := hR.put hlt rfl (z_cE_o hka' hc0) (fun q hq => z_cE_ne rfl rfl rfl (sR_ne hq)) (by
    rw [hfs]
    exact ⟨_, q1, t_OB.to (V := updV (vp_V (z_fs G.1 h a c0)) k (z_mv G.1 (vO z))) ⟨_, e1, w3, w4, t_set w5 hap hkN _⟩ (fun j _ => vp_updV_set (by rw [z_fs_len]; exact hk) _ j)⟩) e2 e3
  exact hK _ _ _ _ ho p e s m args below meth c H1 _ A C hR' (hS.put e2 e3 (Nat.le_add_right _ _)) hL hn hc1 hc2 hlv
theorem s_putRN {μ : zM} {pc i c0 k : Nat} (hd : decode μ.2.1 pc = .ok (.putfield i, 3)) (hc0 : c0 < 9) (hk : k < z_nf c0) (ht : (∃ n, z_ty c0 k = .object n) ∨ ∃ t, z_ty c0 k = .array t) {host : String} (hw : Cond.fieldLinkNest μ.1.cls i ((z_cl c0).2.1 k).1 ((z_cl c0).2.1 k).2.1 ((z_cl c0).2.1 k).2.2.1 host ∈ z_nw) (hf : ((z_cl c0).2.1 k).2.2.2 = false) : z_S μ pc (o_putR c0 k) := by
  intro l G lv mc ms Q cells slots K hK h ls st ho
  have ho1 := pO_inv ho
  clear ho
  obtain ⟨z, r, rfl, ho2⟩ := ho1
  have ho1 := pR_inv ho2
  clear ho2
  obtain ⟨a, r, rfl, hka, ho⟩ := ho1
  intro p e s m args below meth c H locs A C hR hS hL hn hc1 hc2 hlv
  obtain ⟨q1, q2, q3, q4, q5⟩ := z_clok c0 hc0
  have hts := C.2.2.2.2.2.2.2.1
  have hkn := C.2.2.2.2.2.2.2.2.1.1
  have hlt := z_lt hR hka (by omega)
  have hkN : k < (z_cl c0).2.2 := by rw [q5]; exact hk
  have hap := va_apart (own := μ.1.cls) hts q2 (z_ty c0) q3 q4 hkn q1
  obtain ⟨rr, w1, cell, w2, w3, w4, w5⟩ := hR.1 a _ (z_at (H := H) (z_cE_o hka hc0) hlt)
  have hrr : rr = z_cl c0 := Option.some.inj (w1.symm.trans q1)
  subst hrr
  obtain ⟨hSl, hfc, kC, hkC, hkind⟩ := hkn.1 c0 _ q1
  obtain ⟨cf, kf, fi, f, hi, hsl⟩ := hSl k hkN
  obtain ⟨ty, hty, hnr, hft⟩ : ∃ ty, z_ty c0 k = ty ∧ narrow ty (z_mv G.1 (vO z)) = z_mv G.1 (vO z) ∧ fits ty (z_mv G.1 (vO z)) = true := by
    rcases ht with ⟨n, q⟩ | ⟨t, q⟩ <;> refine ⟨_, q, ?_, ?_⟩ <;> cases z <;> rfl
  have hd0 := q3 k hkN
  rw [hty] at hd0
  have hlay := hts _ (q2 _ (u_in_lay hkN))
  unfold u_lay at hlay
  have hst := (u_facts hfc hkC (u_lays hts q2 hkN) hi).1
  rw [if_neg (by rw [hf]; decide)] at hlay
  have h6 := u_store hfc hkC hkind hlay hi hd0 hnr hft
  refine va_WputK C.1 C.2.1 (f := f) C.2.2.2.2.2.2.1 (va_Nw.use rfl (C.2.2.2.2.2.2.2.2.1.2.1 _ hw)) hi hst (by rw [w3]; exact h6) w2 w4 (by rw [hsl]; exact k2_hasslot (w5 k hkN)) rfl rfl hd fun H1 e1 e2 e3 => ?_
  rw [hsl] at e1
  have hka' : (gK (sR h a k z) a).1 = c0 := hka
  have hfs : z_fs G.1 (sR h a k z) a c0 = (z_fs G.1 h a c0).set k (z_mv G.1 (vO z)) := z_fs_set hk (by unfold z_fv; rcases ht with ⟨_, q⟩ | ⟨_, q⟩ <;> rw [q] <;> simp [gR, sR, z_mv, vO]) (fun j hj => ⟨rfl, rfl, by simp [gR, sR, hj]⟩)
  have hR' : z_Rel G (sR h a k z) H1 := hR.put hlt rfl (z_cE_o hka' hc0) (fun q hq => z_cE_ne rfl rfl rfl (sR_ne hq)) (by
    rw [hfs]
    exact ⟨_, q1, t_OB.to (V := updV (vp_V (z_fs G.1 h a c0)) k (z_mv G.1 (vO z))) ⟨_, e1, w3, w4, t_set w5 hap hkN _⟩ (fun j _ => vp_updV_set (by rw [z_fs_len]; exact hk) _ j)⟩) e2 e3
  exact hK _ _ _ _ ho p e s m args below meth c H1 _ A C hR' (hS.put e2 e3 (Nat.le_add_right _ _)) hL hn hc1 hc2 hlv
