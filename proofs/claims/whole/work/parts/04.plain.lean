def o_ic (z : Int) (n : Nat) : zO := fun X K Q h pc ls st => K h (pc + n) ls (vI z :: st)
def o_lc (z : Int) (n : Nat) : zO := fun X K Q h pc ls st => K h (pc + n) ls (vL z :: st)
def o_nul : zO := fun X K Q h pc ls st => K h (pc + 1) ls (vN :: st)
theorem s_iconst {μ : zM} {pc : Nat} {z : Int} (hd : decode μ.2.1 pc = .ok (.iconst z, 1)) : z_S μ pc (o_ic z 1) := by
  intro l G lv mc ms Q cells slots K hK h ls st ho
  intro p e s m args below meth c H locs A C hR hS hL hn hc1 hc2 hlv
  exact lv_iconst C.1 C.2.1 hd rfl (hK _ _ _ _ ho p e s m args below meth c H locs A C hR hS hL hn hc1 hc2 hlv)
theorem s_bipush {μ : zM} {pc : Nat} {z : Int} (hd : decode μ.2.1 pc = .ok (.bipush z, 2)) (hz : (Int8.ofInt z).toInt32 = Int32.ofInt z) : z_S μ pc (o_ic z 2) := by
  intro l G lv mc ms Q cells slots K hK h ls st ho
  intro p e s m args below meth c H locs A C hR hS hL hn hc1 hc2 hlv
  exact lv_bipush C.1 C.2.1 hd hz (hK _ _ _ _ ho p e s m args below meth c H locs A C hR hS hL hn hc1 hc2 hlv)
theorem s_sipush {μ : zM} {pc : Nat} {z : Int} (hd : decode μ.2.1 pc = .ok (.sipush z, 3)) (hz : (Int16.ofInt z).toInt32 = Int32.ofInt z) : z_S μ pc (o_ic z 3) := by
  intro l G lv mc ms Q cells slots K hK h ls st ho
  intro p e s m args below meth c H locs A C hR hS hL hn hc1 hc2 hlv
  exact lv_sipush C.1 C.2.1 hd hz (hK _ _ _ _ ho p e s m args below meth c H locs A C hR hS hL hn hc1 hc2 hlv)
theorem s_lconst {μ : zM} {pc : Nat} {k : Fin 2} {z : Int} (hd : decode μ.2.1 pc = .ok (.lconst k, 1)) (hz : Int64.ofNat (k : Nat) = Int64.ofInt z) : z_S μ pc (o_lc z 1) := by
  intro l G lv mc ms Q cells slots K hK h ls st ho
  intro p e s m args below meth c H locs A C hR hS hL hn hc1 hc2 hlv
  exact lv_lconst C.1 C.2.1 hd hz (hK _ _ _ _ ho p e s m args below meth c H locs A C hR hS hL hn hc1 hc2 hlv)
theorem s_ldc2 {μ : zM} {pc i : Nat} {z : Int} {x : Int64} (hd : decode μ.2.1 pc = .ok (.ldc2_w i, 3)) (hz : x = Int64.ofInt z) (hw : Cond.constantLong μ.1.cls i x ∈ z_gw) : z_S μ pc (o_lc z 3) := by
  intro l G lv mc ms Q cells slots K hK h ls st ho
  intro p e s m args below meth c H locs A C hR hS hL hn hc1 hc2 hlv
  subst hz
  exact lv_ldc2 C.1 C.2.1 C.2.2.2.2.2.2.1 (C.2.2.2.2.2.2.2.1 _ hw) hd (hK _ _ _ _ ho p e s m args below meth c H locs A C hR hS hL hn hc1 hc2 hlv)
theorem s_ldcw {μ : zM} {pc i : Nat} {z : Int} {x : Int32} (hd : decode μ.2.1 pc = .ok (.ldc_w i, 3)) (hz : x = Int32.ofInt z) (hw : Cond.constant μ.1.cls i x ∈ z_gw) : z_S μ pc (o_ic z 3) := by
  intro l G lv mc ms Q cells slots K hK h ls st ho
  intro p e s m args below meth c H locs A C hR hS hL hn hc1 hc2 hlv
  subst hz
  exact lv_ldcw C.1 C.2.1 C.2.2.2.2.2.2.1 (C.2.2.2.2.2.2.2.1 _ hw) hd (hK _ _ _ _ ho p e s m args below meth c H locs A C hR hS hL hn hc1 hc2 hlv)
theorem s_ldc {μ : zM} {pc i : Nat} {z : Int} {x : Int32} (hd : decode μ.2.1 pc = .ok (.ldc i, 2)) (hz : x = Int32.ofInt z) (hw : Cond.constant μ.1.cls i x ∈ z_gw) : z_S μ pc (o_ic z 2) := by
  intro l G lv mc ms Q cells slots K hK h ls st ho
  intro p e s m args below meth c H locs A C hR hS hL hn hc1 hc2 hlv
  subst hz
  exact lv_ldc C.1 C.2.1 C.2.2.2.2.2.2.1 (C.2.2.2.2.2.2.2.1 _ hw) hd (hK _ _ _ _ ho p e s m args below meth c H locs A C hR hS hL hn hc1 hc2 hlv)
theorem s_nul {μ : zM} {pc : Nat} (hd : decode μ.2.1 pc = .ok (.aconst_null, 1)) : z_S μ pc o_nul := by
  intro l G lv mc ms Q cells slots K hK h ls st ho
  intro p e s m args below meth c H locs A C hR hS hL hn hc1 hc2 hlv
  exact lv_null C.1 C.2.1 hd (hK _ _ _ _ ho p e s m args below meth c H locs A C hR hS hL hn hc1 hc2 hlv)
def o_iload (k n : Nat) : zO := fun X K Q h pc ls st => pI [z_gl ls k] fun z _ => K h (pc + n) ls (vI z :: st)
theorem s_iload {μ : zM} {pc k : Nat} (hd : decode μ.2.1 pc = .ok (.iload k, 2)) : z_S μ pc (o_iload k 2) := by
  intro l G lv mc ms Q cells slots K hK h ls st ho
  have ho1 := pI_inv ho
  clear ho
  obtain ⟨z, r, hg, ho⟩ := ho1
  have hg2 : z_gl ls k = vI z := by simpa using congrArg List.head? hg
  intro p e s m args below meth c H locs A C hR hS hL hn hc1 hc2 hlv
  exact lv_iload C.1 C.2.1 hd (hL.2.2 k _ (z_gl_some hg2 (by intro q; cases q)) (by intro q; cases q)) (hK _ _ _ _ ho p e s m args below meth c H locs A C hR hS hL hn hc1 hc2 hlv)
theorem s_iload_n {μ : zM} {pc k : Nat} {f : Fin 4} (hd : decode μ.2.1 pc = .ok (.iload_n f, 1)) (hf : (f : Nat) = k) : z_S μ pc (o_iload k 1) := by
  intro l G lv mc ms Q cells slots K hK h ls st ho
  have ho1 := pI_inv ho
  clear ho
  obtain ⟨z, r, hg, ho⟩ := ho1
  have hg2 : z_gl ls k = vI z := by simpa using congrArg List.head? hg
  intro p e s m args below meth c H locs A C hR hS hL hn hc1 hc2 hlv
  exact lv_iload_n C.1 C.2.1 hd hf (hL.2.2 k _ (z_gl_some hg2 (by intro q; cases q)) (by intro q; cases q)) (hK _ _ _ _ ho p e s m args below meth c H locs A C hR hS hL hn hc1 hc2 hlv)
def o_lload (k n : Nat) : zO := fun X K Q h pc ls st => pL [z_gl ls k] fun z _ => K h (pc + n) ls (vL z :: st)
theorem s_lload {μ : zM} {pc k : Nat} (hd : decode μ.2.1 pc = .ok (.lload k, 2)) : z_S μ pc (o_lload k 2) := by
  intro l G lv mc ms Q cells slots K hK h ls st ho
  have ho1 := pL_inv ho
  clear ho
  obtain ⟨z, r, hg, ho⟩ := ho1
  have hg2 : z_gl ls k = vL z := by simpa using congrArg List.head? hg
  intro p e s m args below meth c H locs A C hR hS hL hn hc1 hc2 hlv
  exact lv_lload C.1 C.2.1 hd (hL.2.2 k _ (z_gl_some hg2 (by intro q; cases q)) (by intro q; cases q)) (hK _ _ _ _ ho p e s m args below meth c H locs A C hR hS hL hn hc1 hc2 hlv)
theorem s_lload_n {μ : zM} {pc k : Nat} {f : Fin 4} (hd : decode μ.2.1 pc = .ok (.lload_n f, 1)) (hf : (f : Nat) = k) : z_S μ pc (o_lload k 1) := by
  intro l G lv mc ms Q cells slots K hK h ls st ho
  have ho1 := pL_inv ho
  clear ho
  obtain ⟨z, r, hg, ho⟩ := ho1
  have hg2 : z_gl ls k = vL z := by simpa using congrArg List.head? hg
  intro p e s m args below meth c H locs A C hR hS hL hn hc1 hc2 hlv
  exact lv_lload_n C.1 C.2.1 hd hf (hL.2.2 k _ (z_gl_some hg2 (by intro q; cases q)) (by intro q; cases q)) (hK _ _ _ _ ho p e s m args below meth c H locs A C hR hS hL hn hc1 hc2 hlv)
def o_aload (k n : Nat) : zO := fun X K Q h pc ls st => pO [z_gl ls k] fun o _ => K h (pc + n) ls (vO o :: st)
theorem s_aload {μ : zM} {pc k : Nat} (hd : decode μ.2.1 pc = .ok (.aload k, 2)) : z_S μ pc (o_aload k 2) := by
  intro l G lv mc ms Q cells slots K hK h ls st ho
  have ho1 := pO_inv ho
  clear ho
  obtain ⟨z, r, hg, ho⟩ := ho1
  have hg2 : z_gl ls k = vO z := by simpa using congrArg List.head? hg
  intro p e s m args below meth c H locs A C hR hS hL hn hc1 hc2 hlv
  have hat := (hL.2.2 k _ (z_gl_some hg2 (by intro q; cases q)) (by intro q; cases q))
  cases z with
  | none => exact lv_aloadN C.1 C.2.1 hd hat (hK _ _ _ _ ho p e s m args below meth c H locs A C hR hS hL hn hc1 hc2 hlv)
  | some z => exact lv_aload C.1 C.2.1 hd hat (hK _ _ _ _ ho p e s m args below meth c H locs A C hR hS hL hn hc1 hc2 hlv)
theorem s_aload_n {μ : zM} {pc k : Nat} {f : Fin 4} (hd : decode μ.2.1 pc = .ok (.aload_n f, 1)) (hf : (f : Nat) = k) : z_S μ pc (o_aload k 1) := by
  intro l G lv mc ms Q cells slots K hK h ls st ho
  have ho1 := pO_inv ho
  clear ho
  obtain ⟨z, r, hg, ho⟩ := ho1
  have hg2 : z_gl ls k = vO z := by simpa using congrArg List.head? hg
  intro p e s m args below meth c H locs A C hR hS hL hn hc1 hc2 hlv
  have hat := (hL.2.2 k _ (z_gl_some hg2 (by intro q; cases q)) (by intro q; cases q))
  cases z with
  | none => exact lv_aload_nN C.1 C.2.1 hd hf hat (hK _ _ _ _ ho p e s m args below meth c H locs A C hR hS hL hn hc1 hc2 hlv)
  | some z => exact lv_aload_n C.1 C.2.1 hd hf hat (hK _ _ _ _ ho p e s m args below meth c H locs A C hR hS hL hn hc1 hc2 hlv)
def o_istore (k n : Nat) : zO := fun X K Q h pc ls st => k < ls.length ∧ pI st fun z r => K h (pc + n) (z_st1 ls k (vI z)) r
def o_lstore (k n : Nat) : zO := fun X K Q h pc ls st => k + 1 < ls.length ∧ pL st fun z r => K h (pc + n) (z_st2 ls k (vL z)) r
def o_astore (k n : Nat) : zO := fun X K Q h pc ls st => k < ls.length ∧ pO st fun z r => K h (pc + n) (z_st1 ls k (vO z)) r
theorem s_istore {μ : zM} {pc k : Nat} (hd : decode μ.2.1 pc = .ok (.istore k, 2)) : z_S μ pc (o_istore k 2) := by
  intro l G lv mc ms Q cells slots K hK h ls st ho
  obtain ⟨hi, ho⟩ := ho
  have ho1 := pI_inv ho
  clear ho
  obtain ⟨z, r, rfl, ho⟩ := ho1
  intro p e s m args below meth c H locs A C hR hS hL hn hc1 hc2 hlv
  exact lv_istore C.1 C.2.1 hd hL.has hi rfl (fun A' h' => hK _ _ _ _ ho p e s m args below meth c H locs A' C hR hS (z_LR.st1 h') (by rw [z_st1_len]; exact hn) hc1 hc2 hlv)
theorem s_istore_n {μ : zM} {pc k : Nat} {f : Fin 4} (hd : decode μ.2.1 pc = .ok (.istore_n f, 1)) (hf : (f : Nat) = k) : z_S μ pc (o_istore k 1) := by
  intro l G lv mc ms Q cells slots K hK h ls st ho
  obtain ⟨hi, ho⟩ := ho
  have ho1 := pI_inv ho
  clear ho
  obtain ⟨z, r, rfl, ho⟩ := ho1
  intro p e s m args below meth c H locs A C hR hS hL hn hc1 hc2 hlv
  exact lv_istore_n C.1 C.2.1 hd hf hL.has hi rfl (fun A' h' => hK _ _ _ _ ho p e s m args below meth c H locs A' C hR hS (z_LR.st1 h') (by rw [z_st1_len]; exact hn) hc1 hc2 hlv)
theorem s_lstore {μ : zM} {pc k : Nat} (hd : decode μ.2.1 pc = .ok (.lstore k, 2)) : z_S μ pc (o_lstore k 2) := by
  intro l G lv mc ms Q cells slots K hK h ls st ho
  obtain ⟨hi, ho⟩ := ho
  have ho1 := pL_inv ho
  clear ho
  obtain ⟨z, r, rfl, ho⟩ := ho1
  intro p e s m args below meth c H locs A C hR hS hL hn hc1 hc2 hlv
  exact lv_lstore C.1 C.2.1 hd hL.has hi rfl (fun A' h' => hK _ _ _ _ ho p e s m args below meth c H locs A' C hR hS (z_LR.st2 hi h') (by rw [z_st2_len]; exact hn) hc1 hc2 hlv)
theorem s_lstore_n {μ : zM} {pc k : Nat} {f : Fin 4} (hd : decode μ.2.1 pc = .ok (.lstore_n f, 1)) (hf : (f : Nat) = k) : z_S μ pc (o_lstore k 1) := by
  intro l G lv mc ms Q cells slots K hK h ls st ho
  obtain ⟨hi, ho⟩ := ho
  have ho1 := pL_inv ho
  clear ho
  obtain ⟨z, r, rfl, ho⟩ := ho1
  intro p e s m args below meth c H locs A C hR hS hL hn hc1 hc2 hlv
  exact lv_lstore_n C.1 C.2.1 hd hf hL.has hi rfl (fun A' h' => hK _ _ _ _ ho p e s m args below meth c H locs A' C hR hS (z_LR.st2 hi h') (by rw [z_st2_len]; exact hn) hc1 hc2 hlv)
theorem s_astore {μ : zM} {pc k : Nat} (hd : decode μ.2.1 pc = .ok (.astore k, 2)) : z_S μ pc (o_astore k 2) := by
  intro l G lv mc ms Q cells slots K hK h ls st ho
  obtain ⟨hi, ho⟩ := ho
  have ho1 := pO_inv ho
  clear ho
  obtain ⟨z, r, rfl, ho⟩ := ho1
  intro p e s m args below meth c H locs A C hR hS hL hn hc1 hc2 hlv
  cases z with
  | none => exact lv_astoreN C.1 C.2.1 hd hL.has hi rfl (fun A' h' => hK _ _ _ _ ho p e s m args below meth c H locs A' C hR hS (z_LR.st1 h') (by rw [z_st1_len]; exact hn) hc1 hc2 hlv)
  | some z => exact lv_astore C.1 C.2.1 hd hL.has hi rfl (fun A' h' => hK _ _ _ _ ho p e s m args below meth c H locs A' C hR hS (z_LR.st1 h') (by rw [z_st1_len]; exact hn) hc1 hc2 hlv)
theorem s_astore_n {μ : zM} {pc k : Nat} {f : Fin 4} (hd : decode μ.2.1 pc = .ok (.astore_n f, 1)) (hf : (f : Nat) = k) : z_S μ pc (o_astore k 1) := by
  intro l G lv mc ms Q cells slots K hK h ls st ho
  obtain ⟨hi, ho⟩ := ho
  have ho1 := pO_inv ho
  clear ho
  obtain ⟨z, r, rfl, ho⟩ := ho1
  intro p e s m args below meth c H locs A C hR hS hL hn hc1 hc2 hlv
  cases z with
  | none => exact lv_astore_nN C.1 C.2.1 hd hf hL.has hi rfl (fun A' h' => hK _ _ _ _ ho p e s m args below meth c H locs A' C hR hS (z_LR.st1 h') (by rw [z_st1_len]; exact hn) hc1 hc2 hlv)
  | some z => exact lv_astore_n C.1 C.2.1 hd hf hL.has hi rfl (fun A' h' => hK _ _ _ _ ho p e s m args below meth c H locs A' C hR hS (z_LR.st1 h') (by rw [z_st1_len]; exact hn) hc1 hc2 hlv)
def o_iinc (k : Nat) (d : Int) : zO := fun X K Q h pc ls st => k < ls.length ∧ pI [z_gl ls k] fun z _ => K h (pc + 3) (z_st1 ls k (vI (z + d))) st
theorem s_iinc {μ : zM} {pc k : Nat} {d : Int} (hd : decode μ.2.1 pc = .ok (.iinc k d, 3)) : z_S μ pc (o_iinc k d) := by
  intro l G lv mc ms Q cells slots K hK h ls st ho
  obtain ⟨hi, ho⟩ := ho
  have ho1 := pI_inv ho
  clear ho
  obtain ⟨z, r, hg, ho⟩ := ho1
  have hg2 : z_gl ls k = vI z := by simpa using congrArg List.head? hg
  intro p e s m args below meth c H locs A C hR hS hL hn hc1 hc2 hlv
  have hm := z_prs_mem (b := G.1) (z_gl_some hg2 (by intro q; cases q)) (by intro q; cases q)
  obtain ⟨j, hj⟩ := List.getElem?_of_mem hm
  exact lv_iinc (v := Int32.ofInt (z + d)) C.1 C.2.1 hd hL.has hj (by rw [Int32.ofInt_add]) hi rfl (fun A' h' => hK _ _ _ _ ho p e s m args below meth c H locs A' C hR hS (z_LR.st1 h') (by rw [z_st1_len]; exact hn) hc1 hc2 hlv)
def o_iadd : zO := fun X K Q h pc ls st => pI st fun b r => pI r fun a r => K h (pc + 1) ls (vI (a + b) :: r)
theorem s_iadd {μ : zM} {pc : Nat} (hd : decode μ.2.1 pc = .ok (.iadd, 1)) : z_S μ pc o_iadd := by
  intro l G lv mc ms Q cells slots K hK h ls st ho
  have ho1 := pI_inv ho
  clear ho
  obtain ⟨b, r, rfl, ho⟩ := ho1
  have ho1 := pI_inv ho
  clear ho
  obtain ⟨a, r, rfl, ho⟩ := ho1
  intro p e s m args below meth c H locs A C hR hS hL hn hc1 hc2 hlv
  exact lv_iadd C.1 C.2.1 hd (by rw [← Int32.ofInt_add]; exact hK _ _ _ _ ho p e s m args below meth c H locs A C hR hS hL hn hc1 hc2 hlv)
def o_isub : zO := fun X K Q h pc ls st => pI st fun b r => pI r fun a r => K h (pc + 1) ls (vI (a - b) :: r)
theorem s_isub {μ : zM} {pc : Nat} (hd : decode μ.2.1 pc = .ok (.isub, 1)) : z_S μ pc o_isub := by
  intro l G lv mc ms Q cells slots K hK h ls st ho
  have ho1 := pI_inv ho
  clear ho
  obtain ⟨b, r, rfl, ho⟩ := ho1
  have ho1 := pI_inv ho
  clear ho
  obtain ⟨a, r, rfl, ho⟩ := ho1
  intro p e s m args below meth c H locs A C hR hS hL hn hc1 hc2 hlv
  exact lv_isub C.1 C.2.1 hd (by rw [← Int32.ofInt_sub]; exact hK _ _ _ _ ho p e s m args below meth c H locs A C hR hS hL hn hc1 hc2 hlv)
def o_imul : zO := fun X K Q h pc ls st => pI st fun b r => pI r fun a r => K h (pc + 1) ls (vI (a * b) :: r)
theorem s_imul {μ : zM} {pc : Nat} (hd : decode μ.2.1 pc = .ok (.imul, 1)) : z_S μ pc o_imul := by
  intro l G lv mc ms Q cells slots K hK h ls st ho
  have ho1 := pI_inv ho
  clear ho
  obtain ⟨b, r, rfl, ho⟩ := ho1
  have ho1 := pI_inv ho
  clear ho
  obtain ⟨a, r, rfl, ho⟩ := ho1
  intro p e s m args below meth c H locs A C hR hS hL hn hc1 hc2 hlv
  exact lv_imul C.1 C.2.1 hd (by rw [← Int32.ofInt_mul]; exact hK _ _ _ _ ho p e s m args below meth c H locs A C hR hS hL hn hc1 hc2 hlv)
def o_iand : zO := fun X K Q h pc ls st => pI st fun b r => pI r fun a r => K h (pc + 1) ls (vI (z_and a b) :: r)
theorem s_iand {μ : zM} {pc : Nat} (hd : decode μ.2.1 pc = .ok (.iand, 1)) : z_S μ pc o_iand := by
  intro l G lv mc ms Q cells slots K hK h ls st ho
  have ho1 := pI_inv ho
  clear ho
  obtain ⟨b, r, rfl, ho⟩ := ho1
  have ho1 := pI_inv ho
  clear ho
  obtain ⟨a, r, rfl, ho⟩ := ho1
  intro p e s m args below meth c H locs A C hR hS hL hn hc1 hc2 hlv
  exact lv_iand C.1 C.2.1 hd (by have hk := hK _ _ _ _ ho p e s m args below meth c H locs A C hR hS hL hn hc1 hc2 hlv; simp only [List.map_cons, z_mv, vI, z_and, z_oI] at hk; exact hk)
def o_ior : zO := fun X K Q h pc ls st => pI st fun b r => pI r fun a r => K h (pc + 1) ls (vI (z_or a b) :: r)
theorem s_ior {μ : zM} {pc : Nat} (hd : decode μ.2.1 pc = .ok (.ior, 1)) : z_S μ pc o_ior := by
  intro l G lv mc ms Q cells slots K hK h ls st ho
  have ho1 := pI_inv ho
  clear ho
  obtain ⟨b, r, rfl, ho⟩ := ho1
  have ho1 := pI_inv ho
  clear ho
  obtain ⟨a, r, rfl, ho⟩ := ho1
  intro p e s m args below meth c H locs A C hR hS hL hn hc1 hc2 hlv
  exact lv_ior C.1 C.2.1 hd (by have hk := hK _ _ _ _ ho p e s m args below meth c H locs A C hR hS hL hn hc1 hc2 hlv; simp only [List.map_cons, z_mv, vI, z_or, z_oI] at hk; exact hk)
def o_ixor : zO := fun X K Q h pc ls st => pI st fun b r => pI r fun a r => K h (pc + 1) ls (vI (z_xor a b) :: r)
theorem s_ixor {μ : zM} {pc : Nat} (hd : decode μ.2.1 pc = .ok (.ixor, 1)) : z_S μ pc o_ixor := by
  intro l G lv mc ms Q cells slots K hK h ls st ho
  have ho1 := pI_inv ho
  clear ho
  obtain ⟨b, r, rfl, ho⟩ := ho1
  have ho1 := pI_inv ho
  clear ho
  obtain ⟨a, r, rfl, ho⟩ := ho1
  intro p e s m args below meth c H locs A C hR hS hL hn hc1 hc2 hlv
  exact lv_ixor C.1 C.2.1 hd (by have hk := hK _ _ _ _ ho p e s m args below meth c H locs A C hR hS hL hn hc1 hc2 hlv; simp only [List.map_cons, z_mv, vI, z_xor, z_oI] at hk; exact hk)
def o_ishl : zO := fun X K Q h pc ls st => pI st fun b r => pI r fun a r => K h (pc + 1) ls (vI (z_shl a b) :: r)
theorem s_ishl {μ : zM} {pc : Nat} (hd : decode μ.2.1 pc = .ok (.ishl, 1)) : z_S μ pc o_ishl := by
  intro l G lv mc ms Q cells slots K hK h ls st ho
  have ho1 := pI_inv ho
  clear ho
  obtain ⟨b, r, rfl, ho⟩ := ho1
  have ho1 := pI_inv ho
  clear ho
  obtain ⟨a, r, rfl, ho⟩ := ho1
  intro p e s m args below meth c H locs A C hR hS hL hn hc1 hc2 hlv
  exact lv_ishl C.1 C.2.1 hd (by have hk := hK _ _ _ _ ho p e s m args below meth c H locs A C hR hS hL hn hc1 hc2 hlv; simp only [List.map_cons, z_mv, vI, z_shl, z_oI] at hk; exact hk)
def o_ishr : zO := fun X K Q h pc ls st => pI st fun b r => pI r fun a r => K h (pc + 1) ls (vI (z_shr a b) :: r)
theorem s_ishr {μ : zM} {pc : Nat} (hd : decode μ.2.1 pc = .ok (.ishr, 1)) : z_S μ pc o_ishr := by
  intro l G lv mc ms Q cells slots K hK h ls st ho
  have ho1 := pI_inv ho
  clear ho
  obtain ⟨b, r, rfl, ho⟩ := ho1
  have ho1 := pI_inv ho
  clear ho
  obtain ⟨a, r, rfl, ho⟩ := ho1
  intro p e s m args below meth c H locs A C hR hS hL hn hc1 hc2 hlv
  exact lv_ishr C.1 C.2.1 hd (by have hk := hK _ _ _ _ ho p e s m args below meth c H locs A C hR hS hL hn hc1 hc2 hlv; simp only [List.map_cons, z_mv, vI, z_shr, z_oI] at hk; exact hk)
def o_iushr : zO := fun X K Q h pc ls st => pI st fun b r => pI r fun a r => K h (pc + 1) ls (vI (z_ushr a b) :: r)
theorem s_iushr {μ : zM} {pc : Nat} (hd : decode μ.2.1 pc = .ok (.iushr, 1)) : z_S μ pc o_iushr := by
  intro l G lv mc ms Q cells slots K hK h ls st ho
  have ho1 := pI_inv ho
  clear ho
  obtain ⟨b, r, rfl, ho⟩ := ho1
  have ho1 := pI_inv ho
  clear ho
  obtain ⟨a, r, rfl, ho⟩ := ho1
  intro p e s m args below meth c H locs A C hR hS hL hn hc1 hc2 hlv
  exact lv_iushr C.1 C.2.1 hd (z_oI _).symm (hK _ _ _ _ ho p e s m args below meth c H locs A C hR hS hL hn hc1 hc2 hlv)
def o_ladd : zO := fun X K Q h pc ls st => pL st fun b r => pL r fun a r => K h (pc + 1) ls (vL (a + b) :: r)
theorem s_ladd {μ : zM} {pc : Nat} (hd : decode μ.2.1 pc = .ok (.ladd, 1)) : z_S μ pc o_ladd := by
  intro l G lv mc ms Q cells slots K hK h ls st ho
  have ho1 := pL_inv ho
  clear ho
  obtain ⟨b, r, rfl, ho⟩ := ho1
  have ho1 := pL_inv ho
  clear ho
  obtain ⟨a, r, rfl, ho⟩ := ho1
  intro p e s m args below meth c H locs A C hR hS hL hn hc1 hc2 hlv
  exact lv_ladd C.1 C.2.1 hd (by rw [← Int64.ofInt_add]; exact hK _ _ _ _ ho p e s m args below meth c H locs A C hR hS hL hn hc1 hc2 hlv)
def o_lsub : zO := fun X K Q h pc ls st => pL st fun b r => pL r fun a r => K h (pc + 1) ls (vL (a - b) :: r)
theorem s_lsub {μ : zM} {pc : Nat} (hd : decode μ.2.1 pc = .ok (.lsub, 1)) : z_S μ pc o_lsub := by
  intro l G lv mc ms Q cells slots K hK h ls st ho
  have ho1 := pL_inv ho
  clear ho
  obtain ⟨b, r, rfl, ho⟩ := ho1
  have ho1 := pL_inv ho
  clear ho
  obtain ⟨a, r, rfl, ho⟩ := ho1
  intro p e s m args below meth c H locs A C hR hS hL hn hc1 hc2 hlv
  exact lv_lsub C.1 C.2.1 hd (by rw [← Int64.ofInt_sub]; exact hK _ _ _ _ ho p e s m args below meth c H locs A C hR hS hL hn hc1 hc2 hlv)
def o_lmul : zO := fun X K Q h pc ls st => pL st fun b r => pL r fun a r => K h (pc + 1) ls (vL (a * b) :: r)
theorem s_lmul {μ : zM} {pc : Nat} (hd : decode μ.2.1 pc = .ok (.lmul, 1)) : z_S μ pc o_lmul := by
  intro l G lv mc ms Q cells slots K hK h ls st ho
  have ho1 := pL_inv ho
  clear ho
  obtain ⟨b, r, rfl, ho⟩ := ho1
  have ho1 := pL_inv ho
  clear ho
  obtain ⟨a, r, rfl, ho⟩ := ho1
  intro p e s m args below meth c H locs A C hR hS hL hn hc1 hc2 hlv
  exact lv_lmul C.1 C.2.1 hd (by rw [← Int64.ofInt_mul]; exact hK _ _ _ _ ho p e s m args below meth c H locs A C hR hS hL hn hc1 hc2 hlv)
def o_land : zO := fun X K Q h pc ls st => pL st fun b r => pL r fun a r => K h (pc + 1) ls (vL (y_and a b) :: r)
theorem s_land {μ : zM} {pc : Nat} (hd : decode μ.2.1 pc = .ok (.land, 1)) : z_S μ pc o_land := by
  intro l G lv mc ms Q cells slots K hK h ls st ho
  have ho1 := pL_inv ho
  clear ho
  obtain ⟨b, r, rfl, ho⟩ := ho1
  have ho1 := pL_inv ho
  clear ho
  obtain ⟨a, r, rfl, ho⟩ := ho1
  intro p e s m args below meth c H locs A C hR hS hL hn hc1 hc2 hlv
  exact lv_land C.1 C.2.1 hd (by have hk := hK _ _ _ _ ho p e s m args below meth c H locs A C hR hS hL hn hc1 hc2 hlv; simp only [List.map_cons, z_mv, vL, y_and, z_oL] at hk; exact hk)
def o_lor : zO := fun X K Q h pc ls st => pL st fun b r => pL r fun a r => K h (pc + 1) ls (vL (y_or a b) :: r)
theorem s_lor {μ : zM} {pc : Nat} (hd : decode μ.2.1 pc = .ok (.lor, 1)) : z_S μ pc o_lor := by
  intro l G lv mc ms Q cells slots K hK h ls st ho
  have ho1 := pL_inv ho
  clear ho
  obtain ⟨b, r, rfl, ho⟩ := ho1
  have ho1 := pL_inv ho
  clear ho
  obtain ⟨a, r, rfl, ho⟩ := ho1
  intro p e s m args below meth c H locs A C hR hS hL hn hc1 hc2 hlv
  exact lv_lor C.1 C.2.1 hd (by have hk := hK _ _ _ _ ho p e s m args below meth c H locs A C hR hS hL hn hc1 hc2 hlv; simp only [List.map_cons, z_mv, vL, y_or, z_oL] at hk; exact hk)
def o_lxor : zO := fun X K Q h pc ls st => pL st fun b r => pL r fun a r => K h (pc + 1) ls (vL (y_xor a b) :: r)
theorem s_lxor {μ : zM} {pc : Nat} (hd : decode μ.2.1 pc = .ok (.lxor, 1)) : z_S μ pc o_lxor := by
  intro l G lv mc ms Q cells slots K hK h ls st ho
  have ho1 := pL_inv ho
  clear ho
  obtain ⟨b, r, rfl, ho⟩ := ho1
  have ho1 := pL_inv ho
  clear ho
  obtain ⟨a, r, rfl, ho⟩ := ho1
  intro p e s m args below meth c H locs A C hR hS hL hn hc1 hc2 hlv
  exact lv_lxor C.1 C.2.1 hd (by have hk := hK _ _ _ _ ho p e s m args below meth c H locs A C hR hS hL hn hc1 hc2 hlv; simp only [List.map_cons, z_mv, vL, y_xor, z_oL] at hk; exact hk)
def o_lshl : zO := fun X K Q h pc ls st => pI st fun b r => pL r fun a r => K h (pc + 1) ls (vL (y_shl a b) :: r)
theorem s_lshl {μ : zM} {pc : Nat} (hd : decode μ.2.1 pc = .ok (.lshl, 1)) : z_S μ pc o_lshl := by
  intro l G lv mc ms Q cells slots K hK h ls st ho
  have ho1 := pI_inv ho
  clear ho
  obtain ⟨b, r, rfl, ho⟩ := ho1
  have ho1 := pL_inv ho
  clear ho
  obtain ⟨a, r, rfl, ho⟩ := ho1
  intro p e s m args below meth c H locs A C hR hS hL hn hc1 hc2 hlv
  exact lv_lshl C.1 C.2.1 hd (z_oL _).symm (hK _ _ _ _ ho p e s m args below meth c H locs A C hR hS hL hn hc1 hc2 hlv)
def o_lushr : zO := fun X K Q h pc ls st => pI st fun b r => pL r fun a r => K h (pc + 1) ls (vL (y_ushr a b) :: r)
theorem s_lushr {μ : zM} {pc : Nat} (hd : decode μ.2.1 pc = .ok (.lushr, 1)) : z_S μ pc o_lushr := by
  intro l G lv mc ms Q cells slots K hK h ls st ho
  have ho1 := pI_inv ho
  clear ho
  obtain ⟨b, r, rfl, ho⟩ := ho1
  have ho1 := pL_inv ho
  clear ho
  obtain ⟨a, r, rfl, ho⟩ := ho1
  intro p e s m args below meth c H locs A C hR hS hL hn hc1 hc2 hlv
  exact lv_lushr C.1 C.2.1 hd (z_oL _).symm (hK _ _ _ _ ho p e s m args below meth c H locs A C hR hS hL hn hc1 hc2 hlv)
theorem z_tdiv {a b : Int} (ha : InR a) (hb : InR b) (h0 : 0 < b) : Int32.ofInt a / Int32.ofInt b = Int32.ofInt (a.tdiv b) := by
  apply Int32.toInt_inj.mp
  have h1 : InR (a.tdiv b) := by
    unfold InR at *
    have := Int.natAbs_tdiv_le_natAbs a b
    have h2 : (-2147483648 : Int) ≤ a.tdiv b := by
      rcases Int.le_total 0 a with q | q
      · have := Int.tdiv_nonneg q (Int.le_of_lt h0); omega
      · omega
    refine ⟨h2, ?_⟩
    rcases Int.le_total 0 a with q | q
    · omega
    · have h3 := Int.tdiv_nonneg (a := -a) (b := b) (by omega) (Int.le_of_lt h0)
      rw [Int.neg_tdiv] at h3
      omega
  rw [z_tI h1, Int32.toInt_div, z_tI ha, z_tI hb]
  unfold InR at h1
  exact Int.bmod_eq_of_le (by omega) (by omega)
theorem z_ne0 {b : Int} (hb : InR b) (h0 : 0 < b) : ¬ Int32.ofInt b = 0 := by
  intro q
  have h := congrArg Int32.toInt q
  rw [z_tI hb] at h
  simp at h
  omega
def o_idiv : zO := fun X K Q h pc ls st => pI st fun b r => pI r fun a r => InR a ∧ InR b ∧ 0 < b ∧ K h (pc + 1) ls (vI (a.tdiv b) :: r)
theorem s_idiv {μ : zM} {pc : Nat} (hd : decode μ.2.1 pc = .ok (.idiv, 1)) : z_S μ pc o_idiv := by
  intro l G lv mc ms Q cells slots K hK h ls st ho
  have ho1 := pI_inv ho
  clear ho
  obtain ⟨b, r, rfl, ho⟩ := ho1
  have ho1 := pI_inv ho
  clear ho
  obtain ⟨a, r, rfl, ho⟩ := ho1
  obtain ⟨ha, hb, h0, ho⟩ := ho
  intro p e s m args below meth c H locs A C hR hS hL hn hc1 hc2 hlv
  exact lv_idiv C.1 C.2.1 hd (z_ne0 hb h0) (by rw [z_tdiv ha hb h0]; exact hK _ _ _ _ ho p e s m args below meth c H locs A C hR hS hL hn hc1 hc2 hlv)
def o_irem : zO := fun X K Q h pc ls st => pI st fun b r => pI r fun a r => InR a ∧ InR b ∧ 0 < b ∧ K h (pc + 1) ls (vI (a.tmod b) :: r)
theorem s_irem {μ : zM} {pc : Nat} (hd : decode μ.2.1 pc = .ok (.irem, 1)) : z_S μ pc o_irem := by
  intro l G lv mc ms Q cells slots K hK h ls st ho
  have ho1 := pI_inv ho
  clear ho
  obtain ⟨b, r, rfl, ho⟩ := ho1
  have ho1 := pI_inv ho
  clear ho
  obtain ⟨a, r, rfl, ho⟩ := ho1
  obtain ⟨ha, hb, h0, ho⟩ := ho
  intro p e s m args below meth c H locs A C hR hS hL hn hc1 hc2 hlv
  exact lv_irem C.1 C.2.1 hd (z_ne0 hb h0) (by rw [z_tdiv ha hb h0, ← Int32.ofInt_mul, ← Int32.ofInt_sub, show a - a.tdiv b * b = a.tmod b from by have := Int.tmod_add_tdiv_mul a b; omega]; exact hK _ _ _ _ ho p e s m args below meth c H locs A C hR hS hL hn hc1 hc2 hlv)
def o_i2l : zO := fun X K Q h pc ls st => pI st fun a r => InR a ∧ K h (pc + 1) ls (vL a :: r)
theorem s_i2l {μ : zM} {pc : Nat} (hd : decode μ.2.1 pc = .ok (.i2l, 1)) : z_S μ pc o_i2l := by
  intro l G lv mc ms Q cells slots K hK h ls st ho
  have ho1 := pI_inv ho
  clear ho
  obtain ⟨a, r, rfl, ho⟩ := ho1
  obtain ⟨ha, ho⟩ := ho
  intro p e s m args below meth c H locs A C hR hS hL hn hc1 hc2 hlv
  exact lv_i2l C.1 C.2.1 hd (by rw [← z_oL (Int32.toInt64 _), Int32.toInt_toInt64, z_tI ha]) (hK _ _ _ _ ho p e s m args below meth c H locs A C hR hS hL hn hc1 hc2 hlv)
def o_l2i : zO := fun X K Q h pc ls st => pL st fun a r => K h (pc + 1) ls (vI a :: r)
theorem s_l2i {μ : zM} {pc : Nat} (hd : decode μ.2.1 pc = .ok (.l2i, 1)) : z_S μ pc o_l2i := by
  intro l G lv mc ms Q cells slots K hK h ls st ho
  have ho1 := pL_inv ho
  clear ho
  obtain ⟨a, r, rfl, ho⟩ := ho1
  intro p e s m args below meth c H locs A C hR hS hL hn hc1 hc2 hlv
  exact lv_l2i C.1 C.2.1 hd Int64.toInt32_ofInt (hK _ _ _ _ ho p e s m args below meth c H locs A C hR hS hL hn hc1 hc2 hlv)
def o_lcmp : zO := fun X K Q h pc ls st => pL st fun b r => pL r fun a r => InL a ∧ InL b ∧ K h (pc + 1) ls (vI (y_cmp a b) :: r)
theorem z_cmp {a b : Int} (ha : InL a) (hb : InL b) : lg_cmp (Int64.ofInt a) (Int64.ofInt b) = Int32.ofInt (y_cmp a b) := by
  unfold lg_cmp y_cmp
  simp only [gt_iff_lt, Int64.lt_iff_toInt_lt, ← Int64.toInt_inj, z_tL ha, z_tL hb]
  split
  · rfl
  · split <;> rfl
theorem s_lcmp {μ : zM} {pc : Nat} (hd : decode μ.2.1 pc = .ok (.lcmp, 1)) : z_S μ pc o_lcmp := by
  intro l G lv mc ms Q cells slots K hK h ls st ho
  have ho1 := pL_inv ho
  clear ho
  obtain ⟨b, r, rfl, ho⟩ := ho1
  have ho1 := pL_inv ho
  clear ho
  obtain ⟨a, r, rfl, ho⟩ := ho1
  obtain ⟨ha, hb, ho⟩ := ho
  intro p e s m args below meth c H locs A C hR hS hL hn hc1 hc2 hlv
  exact W.lcmp C.1 C.2.1 hd (by rw [z_cmp ha hb]; exact hK _ _ _ _ ho p e s m args below meth c H locs A C hR hS hL hn hc1 hc2 hlv)
def o_dup : zO := fun X K Q h pc ls st => p1 st fun v r => K h (pc + 1) ls (v :: v :: r)
theorem s_dup {μ : zM} {pc : Nat} (hd : decode μ.2.1 pc = .ok (.dup, 1)) : z_S μ pc o_dup := by
  intro l G lv mc ms Q cells slots K hK h ls st ho
  have ho1 := p1_inv ho
  clear ho
  obtain ⟨v, r, rfl, ho, hv⟩ := ho1
  intro p e s m args below meth c H locs A C hR hS hL hn hc1 hc2 hlv
  exact lv_dup C.1 C.2.1 hd (hv _) (hK _ _ _ _ ho p e s m args below meth c H locs A C hR hS hL hn hc1 hc2 hlv)
def o_dup2 : zO := fun X K Q h pc ls st => p1 st fun v r => p1 r fun u r => K h (pc + 1) ls (v :: u :: v :: u :: r)
theorem s_dup2 {μ : zM} {pc : Nat} (hd : decode μ.2.1 pc = .ok (.dup2, 1)) : z_S μ pc o_dup2 := by
  intro l G lv mc ms Q cells slots K hK h ls st ho
  have ho1 := p1_inv ho
  clear ho
  obtain ⟨v, r, rfl, ho, hv⟩ := ho1
  have ho1 := p1_inv ho
  clear ho
  obtain ⟨u, r, rfl, ho, hu⟩ := ho1
  intro p e s m args below meth c H locs A C hR hS hL hn hc1 hc2 hlv
  exact lv_dup2_11 C.1 C.2.1 hd (hv _) (hu _) (hK _ _ _ _ ho p e s m args below meth c H locs A C hR hS hL hn hc1 hc2 hlv)
theorem z_ceq {a b : Int} (ha : InR a) (hb : InR b) : Int32.ofInt a = Int32.ofInt b ↔ a = b := by rw [← Int32.toInt_inj, z_tI ha, z_tI hb]
theorem z_clt {a b : Int} (ha : InR a) (hb : InR b) : Int32.ofInt a < Int32.ofInt b ↔ a < b := by rw [Int32.lt_iff_toInt_lt, z_tI ha, z_tI hb]
theorem z_cle {a b : Int} (ha : InR a) (hb : InR b) : Int32.ofInt a ≤ Int32.ofInt b ↔ a ≤ b := by rw [Int32.le_iff_toInt_le, z_tI ha, z_tI hb]
theorem z_R0 : InR 0 := ⟨by decide, by decide⟩
theorem z_o0 : (0 : Int32) = Int32.ofInt 0 := rfl
def o_iceq (tgt : Nat) : zO := fun X K Q h pc ls st => pI st fun b r => pI r fun a r => InR a ∧ InR b ∧ (a = b → K h tgt ls r) ∧ (¬ a = b → K h (pc + 3) ls r)
theorem s_iceq {μ : zM} {pc tgt : Nat} {off : Int} (hd : decode μ.2.1 pc = .ok (.if_icmp .eq off, 3)) (ht : (pc : Int) + off = (tgt : Int)) : z_S μ pc (o_iceq tgt) := by
  intro l G lv mc ms Q cells slots K hK h ls st ho
  have ho1 := pI_inv ho
  clear ho
  obtain ⟨b, r, rfl, ho⟩ := ho1
  have ho1 := pI_inv ho
  clear ho
  obtain ⟨a, r, rfl, ho⟩ := ho1
  obtain ⟨ha, hb, h1, h2⟩ := ho
  intro p e s m args below meth c H locs A C hR hS hL hn hc1 hc2 hlv
  exact lv_icmp_eq C.1 C.2.1 hd ht (fun q => hK _ _ _ _ (h1 ((z_ceq ha hb).mp q)) p e s m args below meth c H locs A C hR hS hL hn hc1 hc2 hlv) (fun q => hK _ _ _ _ (h2 (fun w => q ((z_ceq ha hb).mpr w))) p e s m args below meth c H locs A C hR hS hL hn hc1 hc2 hlv)
def o_ifeq (tgt : Nat) : zO := fun X K Q h pc ls st => pI st fun a r => InR a ∧ (a = 0 → K h tgt ls r) ∧ (¬ a = 0 → K h (pc + 3) ls r)
theorem s_ifeq {μ : zM} {pc tgt : Nat} {off : Int} (hd : decode μ.2.1 pc = .ok (.ifCond .eq off, 3)) (ht : (pc : Int) + off = (tgt : Int)) : z_S μ pc (o_ifeq tgt) := by
  intro l G lv mc ms Q cells slots K hK h ls st ho
  have ho1 := pI_inv ho
  clear ho
  obtain ⟨a, r, rfl, ho⟩ := ho1
  obtain ⟨ha, h1, h2⟩ := ho
  have hb := z_R0
  intro p e s m args below meth c H locs A C hR hS hL hn hc1 hc2 hlv
  exact lv_if_eq C.1 C.2.1 hd ht (fun q => hK _ _ _ _ (h1 ((z_ceq ha hb).mp q)) p e s m args below meth c H locs A C hR hS hL hn hc1 hc2 hlv) (fun q => hK _ _ _ _ (h2 (fun w => q ((z_ceq ha hb).mpr w))) p e s m args below meth c H locs A C hR hS hL hn hc1 hc2 hlv)
def o_icne (tgt : Nat) : zO := fun X K Q h pc ls st => pI st fun b r => pI r fun a r => InR a ∧ InR b ∧ (¬ a = b → K h tgt ls r) ∧ (a = b → K h (pc + 3) ls r)
theorem s_icne {μ : zM} {pc tgt : Nat} {off : Int} (hd : decode μ.2.1 pc = .ok (.if_icmp .ne off, 3)) (ht : (pc : Int) + off = (tgt : Int)) : z_S μ pc (o_icne tgt) := by
  intro l G lv mc ms Q cells slots K hK h ls st ho
  have ho1 := pI_inv ho
  clear ho
  obtain ⟨b, r, rfl, ho⟩ := ho1
  have ho1 := pI_inv ho
  clear ho
  obtain ⟨a, r, rfl, ho⟩ := ho1
  obtain ⟨ha, hb, h1, h2⟩ := ho
  intro p e s m args below meth c H locs A C hR hS hL hn hc1 hc2 hlv
  exact lv_icmp_ne C.1 C.2.1 hd ht (fun q => hK _ _ _ _ (h1 (fun w => q ((z_ceq ha hb).mpr w))) p e s m args below meth c H locs A C hR hS hL hn hc1 hc2 hlv) (fun q => hK _ _ _ _ (h2 ((z_ceq ha hb).mp q)) p e s m args below meth c H locs A C hR hS hL hn hc1 hc2 hlv)
def o_ifne (tgt : Nat) : zO := fun X K Q h pc ls st => pI st fun a r => InR a ∧ (¬ a = 0 → K h tgt ls r) ∧ (a = 0 → K h (pc + 3) ls r)
theorem s_ifne {μ : zM} {pc tgt : Nat} {off : Int} (hd : decode μ.2.1 pc = .ok (.ifCond .ne off, 3)) (ht : (pc : Int) + off = (tgt : Int)) : z_S μ pc (o_ifne tgt) := by
  intro l G lv mc ms Q cells slots K hK h ls st ho
  have ho1 := pI_inv ho
  clear ho
  obtain ⟨a, r, rfl, ho⟩ := ho1
  obtain ⟨ha, h1, h2⟩ := ho
  have hb := z_R0
  intro p e s m args below meth c H locs A C hR hS hL hn hc1 hc2 hlv
  exact lv_if_ne C.1 C.2.1 hd ht (fun q => hK _ _ _ _ (h1 (fun w => q ((z_ceq ha hb).mpr w))) p e s m args below meth c H locs A C hR hS hL hn hc1 hc2 hlv) (fun q => hK _ _ _ _ (h2 ((z_ceq ha hb).mp q)) p e s m args below meth c H locs A C hR hS hL hn hc1 hc2 hlv)
def o_iclt (tgt : Nat) : zO := fun X K Q h pc ls st => pI st fun b r => pI r fun a r => InR a ∧ InR b ∧ (a < b → K h tgt ls r) ∧ (¬ a < b → K h (pc + 3) ls r)
theorem s_iclt {μ : zM} {pc tgt : Nat} {off : Int} (hd : decode μ.2.1 pc = .ok (.if_icmp .lt off, 3)) (ht : (pc : Int) + off = (tgt : Int)) : z_S μ pc (o_iclt tgt) := by
  intro l G lv mc ms Q cells slots K hK h ls st ho
  have ho1 := pI_inv ho
  clear ho
  obtain ⟨b, r, rfl, ho⟩ := ho1
  have ho1 := pI_inv ho
  clear ho
  obtain ⟨a, r, rfl, ho⟩ := ho1
  obtain ⟨ha, hb, h1, h2⟩ := ho
  intro p e s m args below meth c H locs A C hR hS hL hn hc1 hc2 hlv
  exact lv_icmp_lt C.1 C.2.1 hd ht (fun q => hK _ _ _ _ (h1 ((z_clt ha hb).mp q)) p e s m args below meth c H locs A C hR hS hL hn hc1 hc2 hlv) (fun q => hK _ _ _ _ (h2 (fun w => q ((z_clt ha hb).mpr w))) p e s m args below meth c H locs A C hR hS hL hn hc1 hc2 hlv)
def o_iflt (tgt : Nat) : zO := fun X K Q h pc ls st => pI st fun a r => InR a ∧ (a < 0 → K h tgt ls r) ∧ (¬ a < 0 → K h (pc + 3) ls r)
theorem s_iflt {μ : zM} {pc tgt : Nat} {off : Int} (hd : decode μ.2.1 pc = .ok (.ifCond .lt off, 3)) (ht : (pc : Int) + off = (tgt : Int)) : z_S μ pc (o_iflt tgt) := by
  intro l G lv mc ms Q cells slots K hK h ls st ho
  have ho1 := pI_inv ho
  clear ho
  obtain ⟨a, r, rfl, ho⟩ := ho1
  obtain ⟨ha, h1, h2⟩ := ho
  have hb := z_R0
  intro p e s m args below meth c H locs A C hR hS hL hn hc1 hc2 hlv
  exact lv_if_lt C.1 C.2.1 hd ht (fun q => hK _ _ _ _ (h1 ((z_clt ha hb).mp q)) p e s m args below meth c H locs A C hR hS hL hn hc1 hc2 hlv) (fun q => hK _ _ _ _ (h2 (fun w => q ((z_clt ha hb).mpr w))) p e s m args below meth c H locs A C hR hS hL hn hc1 hc2 hlv)
def o_icge (tgt : Nat) : zO := fun X K Q h pc ls st => pI st fun b r => pI r fun a r => InR a ∧ InR b ∧ (b ≤ a → K h tgt ls r) ∧ (¬ b ≤ a → K h (pc + 3) ls r)
theorem s_icge {μ : zM} {pc tgt : Nat} {off : Int} (hd : decode μ.2.1 pc = .ok (.if_icmp .ge off, 3)) (ht : (pc : Int) + off = (tgt : Int)) : z_S μ pc (o_icge tgt) := by
  intro l G lv mc ms Q cells slots K hK h ls st ho
  have ho1 := pI_inv ho
  clear ho
  obtain ⟨b, r, rfl, ho⟩ := ho1
  have ho1 := pI_inv ho
  clear ho
  obtain ⟨a, r, rfl, ho⟩ := ho1
  obtain ⟨ha, hb, h1, h2⟩ := ho
  intro p e s m args below meth c H locs A C hR hS hL hn hc1 hc2 hlv
  exact lv_icmp_ge C.1 C.2.1 hd ht (fun q => hK _ _ _ _ (h1 ((z_cle hb ha).mp q)) p e s m args below meth c H locs A C hR hS hL hn hc1 hc2 hlv) (fun q => hK _ _ _ _ (h2 (fun w => q ((z_cle hb ha).mpr w))) p e s m args below meth c H locs A C hR hS hL hn hc1 hc2 hlv)
def o_ifge (tgt : Nat) : zO := fun X K Q h pc ls st => pI st fun a r => InR a ∧ (0 ≤ a → K h tgt ls r) ∧ (¬ 0 ≤ a → K h (pc + 3) ls r)
theorem s_ifge {μ : zM} {pc tgt : Nat} {off : Int} (hd : decode μ.2.1 pc = .ok (.ifCond .ge off, 3)) (ht : (pc : Int) + off = (tgt : Int)) : z_S μ pc (o_ifge tgt) := by
  intro l G lv mc ms Q cells slots K hK h ls st ho
  have ho1 := pI_inv ho
  clear ho
  obtain ⟨a, r, rfl, ho⟩ := ho1
  obtain ⟨ha, h1, h2⟩ := ho
  have hb := z_R0
  intro p e s m args below meth c H locs A C hR hS hL hn hc1 hc2 hlv
  exact lv_if_ge C.1 C.2.1 hd ht (fun q => hK _ _ _ _ (h1 ((z_cle hb ha).mp q)) p e s m args below meth c H locs A C hR hS hL hn hc1 hc2 hlv) (fun q => hK _ _ _ _ (h2 (fun w => q ((z_cle hb ha).mpr w))) p e s m args below meth c H locs A C hR hS hL hn hc1 hc2 hlv)
def o_icgt (tgt : Nat) : zO := fun X K Q h pc ls st => pI st fun b r => pI r fun a r => InR a ∧ InR b ∧ (b < a → K h tgt ls r) ∧ (¬ b < a → K h (pc + 3) ls r)
theorem s_icgt {μ : zM} {pc tgt : Nat} {off : Int} (hd : decode μ.2.1 pc = .ok (.if_icmp .gt off, 3)) (ht : (pc : Int) + off = (tgt : Int)) : z_S μ pc (o_icgt tgt) := by
  intro l G lv mc ms Q cells slots K hK h ls st ho
  have ho1 := pI_inv ho
  clear ho
  obtain ⟨b, r, rfl, ho⟩ := ho1
  have ho1 := pI_inv ho
  clear ho
  obtain ⟨a, r, rfl, ho⟩ := ho1
  obtain ⟨ha, hb, h1, h2⟩ := ho
  intro p e s m args below meth c H locs A C hR hS hL hn hc1 hc2 hlv
  exact lv_icmp_gt C.1 C.2.1 hd ht (fun q => hK _ _ _ _ (h1 ((z_clt hb ha).mp q)) p e s m args below meth c H locs A C hR hS hL hn hc1 hc2 hlv) (fun q => hK _ _ _ _ (h2 (fun w => q ((z_clt hb ha).mpr w))) p e s m args below meth c H locs A C hR hS hL hn hc1 hc2 hlv)
def o_ifgt (tgt : Nat) : zO := fun X K Q h pc ls st => pI st fun a r => InR a ∧ (0 < a → K h tgt ls r) ∧ (¬ 0 < a → K h (pc + 3) ls r)
theorem s_ifgt {μ : zM} {pc tgt : Nat} {off : Int} (hd : decode μ.2.1 pc = .ok (.ifCond .gt off, 3)) (ht : (pc : Int) + off = (tgt : Int)) : z_S μ pc (o_ifgt tgt) := by
  intro l G lv mc ms Q cells slots K hK h ls st ho
  have ho1 := pI_inv ho
  clear ho
  obtain ⟨a, r, rfl, ho⟩ := ho1
  obtain ⟨ha, h1, h2⟩ := ho
  have hb := z_R0
  intro p e s m args below meth c H locs A C hR hS hL hn hc1 hc2 hlv
  exact lv_if_gt C.1 C.2.1 hd ht (fun q => hK _ _ _ _ (h1 ((z_clt hb ha).mp q)) p e s m args below meth c H locs A C hR hS hL hn hc1 hc2 hlv) (fun q => hK _ _ _ _ (h2 (fun w => q ((z_clt hb ha).mpr w))) p e s m args below meth c H locs A C hR hS hL hn hc1 hc2 hlv)
def o_icle (tgt : Nat) : zO := fun X K Q h pc ls st => pI st fun b r => pI r fun a r => InR a ∧ InR b ∧ (a ≤ b → K h tgt ls r) ∧ (¬ a ≤ b → K h (pc + 3) ls r)
theorem s_icle {μ : zM} {pc tgt : Nat} {off : Int} (hd : decode μ.2.1 pc = .ok (.if_icmp .le off, 3)) (ht : (pc : Int) + off = (tgt : Int)) : z_S μ pc (o_icle tgt) := by
  intro l G lv mc ms Q cells slots K hK h ls st ho
  have ho1 := pI_inv ho
  clear ho
  obtain ⟨b, r, rfl, ho⟩ := ho1
  have ho1 := pI_inv ho
  clear ho
  obtain ⟨a, r, rfl, ho⟩ := ho1
  obtain ⟨ha, hb, h1, h2⟩ := ho
  intro p e s m args below meth c H locs A C hR hS hL hn hc1 hc2 hlv
  exact lv_icmp_le C.1 C.2.1 hd ht (fun q => hK _ _ _ _ (h1 ((z_cle ha hb).mp q)) p e s m args below meth c H locs A C hR hS hL hn hc1 hc2 hlv) (fun q => hK _ _ _ _ (h2 (fun w => q ((z_cle ha hb).mpr w))) p e s m args below meth c H locs A C hR hS hL hn hc1 hc2 hlv)
def o_ifle (tgt : Nat) : zO := fun X K Q h pc ls st => pI st fun a r => InR a ∧ (a ≤ 0 → K h tgt ls r) ∧ (¬ a ≤ 0 → K h (pc + 3) ls r)
theorem s_ifle {μ : zM} {pc tgt : Nat} {off : Int} (hd : decode μ.2.1 pc = .ok (.ifCond .le off, 3)) (ht : (pc : Int) + off = (tgt : Int)) : z_S μ pc (o_ifle tgt) := by
  intro l G lv mc ms Q cells slots K hK h ls st ho
  have ho1 := pI_inv ho
  clear ho
  obtain ⟨a, r, rfl, ho⟩ := ho1
  obtain ⟨ha, h1, h2⟩ := ho
  have hb := z_R0
  intro p e s m args below meth c H locs A C hR hS hL hn hc1 hc2 hlv
  exact lv_if_le C.1 C.2.1 hd ht (fun q => hK _ _ _ _ (h1 ((z_cle ha hb).mp q)) p e s m args below meth c H locs A C hR hS hL hn hc1 hc2 hlv) (fun q => hK _ _ _ _ (h2 (fun w => q ((z_cle ha hb).mpr w))) p e s m args below meth c H locs A C hR hS hL hn hc1 hc2 hlv)
def o_goto (tgt : Nat) : zO := fun X K Q h pc ls st => K h tgt ls st
theorem s_goto {μ : zM} {pc tgt : Nat} {off : Int} (hd : decode μ.2.1 pc = .ok (.goto off, 3)) (ht : (pc : Int) + off = (tgt : Int)) : z_S μ pc (o_goto tgt) := by
  intro l G lv mc ms Q cells slots K hK h ls st ho
  intro p e s m args below meth c H locs A C hR hS hL hn hc1 hc2 hlv
  exact lv_goto C.1 C.2.1 hd ht (hK _ _ _ _ ho p e s m args below meth c H locs A C hR hS hL hn hc1 hc2 hlv)
def o_ifnull (tgt : Nat) : zO := fun X K Q h pc ls st => pO st fun o r => (o = none → K h tgt ls r) ∧ (¬ o = none → K h (pc + 3) ls r)
theorem s_ifnull {μ : zM} {pc tgt : Nat} {off : Int} (hd : decode μ.2.1 pc = .ok (.ifnull off, 3)) (ht : (pc : Int) + off = (tgt : Int)) : z_S μ pc (o_ifnull tgt) := by
  intro l G lv mc ms Q cells slots K hK h ls st ho
  have ho1 := pO_inv ho
  clear ho
  obtain ⟨o, r, rfl, ho⟩ := ho1
  intro p e s m args below meth c H locs A C hR hS hL hn hc1 hc2 hlv
  cases o with
  | none => exact lv_ifnullN C.1 C.2.1 hd ht (hK _ _ _ _ (ho.1 rfl) p e s m args below meth c H locs A C hR hS hL hn hc1 hc2 hlv)
  | some a => exact lv_ifnull C.1 C.2.1 hd (hK _ _ _ _ (ho.2 (by simp)) p e s m args below meth c H locs A C hR hS hL hn hc1 hc2 hlv)
def o_ifnonnull (tgt : Nat) : zO := fun X K Q h pc ls st => pO st fun o r => (¬ o = none → K h tgt ls r) ∧ (o = none → K h (pc + 3) ls r)
theorem s_ifnonnull {μ : zM} {pc tgt : Nat} {off : Int} (hd : decode μ.2.1 pc = .ok (.ifnonnull off, 3)) (ht : (pc : Int) + off = (tgt : Int)) : z_S μ pc (o_ifnonnull tgt) := by
  intro l G lv mc ms Q cells slots K hK h ls st ho
  have ho1 := pO_inv ho
  clear ho
  obtain ⟨o, r, rfl, ho⟩ := ho1
  intro p e s m args below meth c H locs A C hR hS hL hn hc1 hc2 hlv
  cases o with
  | none => exact lv_ifnonnullN C.1 C.2.1 hd (hK _ _ _ _ (ho.2 rfl) p e s m args below meth c H locs A C hR hS hL hn hc1 hc2 hlv)
  | some a => exact lv_ifnonnull C.1 C.2.1 hd ht (hK _ _ _ _ (ho.1 (by simp)) p e s m args below meth c H locs A C hR hS hL hn hc1 hc2 hlv)
def z_sw (z : Int) : List (Int × Nat) → Nat → (Nat → Prop) → Prop
  | [], d, f => f d
  | (k, t) :: r, d, f => (z = k → f t) ∧ (¬ z = k → z_sw z r d f)
theorem z_sw_hit : ∀ {z : Int} {l : List (Int × Nat)} {d : Nat} {f : Nat → Prop}, z_sw z l d f → f ((l.lookup z).getD d)
  | z, [], d, f, h => h
  | z, (k, t) :: r, d, f, h => by
    by_cases hz : z = k
    · subst hz
      simpa [List.lookup] using h.1 rfl
    · have hb : (z == k) = false := by simpa using hz
      simpa [List.lookup, hb] using z_sw_hit (h.2 hz)
def o_sw (l : List (Int × Nat)) (d : Nat) : zO := fun X K Q h pc ls st => pI st fun z r => InR z ∧ z_sw z l d (fun t => K h t ls r)
theorem s_tsw {μ : zM} {pc d len : Nat} {dflt lo hi : Int} {offs : Array Int} {tl : List (Int × Nat)} (hd : decode μ.2.1 pc = .ok (.tableswitch dflt lo hi offs, len)) (hdf : (pc : Int) + dflt = (d : Int))
    (hl : tl = (List.range offs.size).map (fun i : Nat => (lo + (i : Int), ((pc : Int) + offs.getD i 0).toNat))) (hhi : hi + 1 = lo + (offs.size : Int)) (hpos : ∀ i, i < offs.size → 0 ≤ (pc : Int) + offs.getD i 0) : z_S μ pc (o_sw tl d) := by
  intro l G lv mc ms Q cells slots K hK h ls st ho
  have ho1 := pI_inv ho
  clear ho
  obtain ⟨z, r, rfl, ho⟩ := ho1
  obtain ⟨hz, ho⟩ := ho
  have hh := z_sw_hit ho
  intro p e s m args below meth c H locs A C hR hS hL hn hc1 hc2 hlv
  by_cases h1 : z < lo
  · have hlk : tl.lookup z = none := by
      rw [hl, List.lookup_eq_none_iff]
      intro q hq
      obtain ⟨i, -, rfl⟩ := List.mem_map.mp hq
      simp
      omega
    rw [hlk] at hh
    exact lv_tableOut C.1 C.2.1 hd (Or.inl (by rw [z_tI hz]; exact h1)) hdf (hK _ _ _ _ hh p e s m args below meth c H locs A C hR hS hL hn hc1 hc2 hlv)
  · by_cases h2 : hi < z
    · have hlk : tl.lookup z = none := by
        rw [hl, List.lookup_eq_none_iff]
        intro q hq
        obtain ⟨i, hi', rfl⟩ := List.mem_map.mp hq
        have := List.mem_range.mp hi'
        simp
        omega
      rw [hlk] at hh
      exact lv_tableOut C.1 C.2.1 hd (Or.inr (by rw [z_tI hz]; exact h2)) hdf (hK _ _ _ _ hh p e s m args below meth c H locs A C hR hS hL hn hc1 hc2 hlv)
    · have hi : (z - lo).toNat < offs.size := by omega
      have hlk : ∀ (n a : Nat), a ≤ (z - lo).toNat → (z - lo).toNat < a + n → ((List.range' a n).map (fun i : Nat => (lo + (i : Int), ((pc : Int) + offs.getD i 0).toNat))).lookup z = some (((pc : Int) + offs.getD (z - lo).toNat 0).toNat) := by
        intro n
        induction n with
        | zero => intro a _ h; omega
        | succ n ih =>
          intro a h3 h4
          rw [List.range'_succ, List.map_cons]
          by_cases h5 : a = (z - lo).toNat
          · subst h5
            have : (z == lo + (((z - lo).toNat : Nat) : Int)) = true := by simp; omega
            simp only [List.lookup, this]
          · have : (z == lo + (a : Int)) = false := by simp; omega
            simp only [List.lookup, this]
            exact ih (a + 1) (by omega) (by omega)
      have hlk2 : tl.lookup z = some (((pc : Int) + offs.getD (z - lo).toNat 0).toNat) := by
        rw [hl, List.range_eq_range']
        exact hlk offs.size 0 (by omega) (by omega)
      rw [hlk2] at hh
      have ho2 : offs[(z - lo).toNat]? = some (offs.getD (z - lo).toNat 0) := by simp [hi]
      have hp := hpos _ hi
      exact lv_tableIn C.1 C.2.1 hd (by rw [z_tI hz]; exact h1) (by rw [z_tI hz]; exact h2) (by rw [z_tI hz]; exact ho2) (tgt := ((pc : Int) + offs.getD (z - lo).toNat 0).toNat) (by omega) (hK _ _ _ _ hh p e s m args below meth c H locs A C hR hS hL hn hc1 hc2 hlv)
theorem z_lsw {pc d : Nat} {dflt : Int} (hdf : (pc : Int) + dflt = (d : Int)) : ∀ (ps : List (Int × Int)) (z : Int), (∀ q ∈ ps, 0 ≤ (pc : Int) + q.2) → (pc : Int) + Op.lookupswitch.offset ps dflt z = ((((ps.map (fun q => (q.1, ((pc : Int) + q.2).toNat))).lookup z).getD d : Nat) : Int)
  | [], z, _ => by simpa [Op.lookupswitch.offset] using hdf
  | (k, o) :: r, z, h => by
    have ih := z_lsw hdf r z (fun q hq => h q (List.mem_cons_of_mem _ hq))
    have h0 := h (k, o) List.mem_cons_self
    by_cases hz : z = k
    · subst hz
      simp [Op.lookupswitch.offset, List.lookup]
      omega
    · have hb : (z == k) = false := by simpa using hz
      have hb2 : (k == z) = false := by simpa using Ne.symm hz
      simp only [List.map_cons, List.lookup, hb]
      rw [← ih]
      first | simp [Op.lookupswitch.offset, hz, Ne.symm hz] | simp [Op.lookupswitch.offset, hb, hb2]
theorem s_lsw {μ : zM} {pc d len : Nat} {dflt : Int} {ps : Array (Int × Int)} {tl : List (Int × Nat)} (hd : decode μ.2.1 pc = .ok (.lookupswitch dflt ps, len)) (hp : (ps.toList.zip (ps.toList.drop 1)).all (fun (a, next) => a.1 < next.1) = true) (hdf : (pc : Int) + dflt = (d : Int)) (hl : tl = ps.toList.map (fun q => (q.1, ((pc : Int) + q.2).toNat))) (hpos : ∀ q ∈ ps.toList, 0 ≤ (pc : Int) + q.2) : z_S μ pc (o_sw tl d) := by
  intro l G lv mc ms Q cells slots K hK h ls st ho
  have ho1 := pI_inv ho
  clear ho
  obtain ⟨z, r, rfl, ho⟩ := ho1
  obtain ⟨hz, ho⟩ := ho
  have hh := z_sw_hit ho
  intro p e s m args below meth c H locs A C hR hS hL hn hc1 hc2 hlv
  subst hl
  exact lv_lookup (tgt := (((ps.toList.map (fun q => (q.1, ((pc : Int) + q.2).toNat))).lookup z).getD d)) C.1 C.2.1 hd hp rfl (by rw [z_tI hz]; exact z_lsw hdf ps.toList z hpos) (hK _ _ _ _ hh p e s m args below meth c H locs A C hR hS hL hn hc1 hc2 hlv)
def o_iret : zO := fun X K Q h pc ls st => pI st fun z r => r = [] ∧ Q (some (vI z)) h
def o_zret : zO := fun X K Q h pc ls st => pI st fun z r => r = [] ∧ (z = 0 ∨ z = 1) ∧ Q (some (vI z)) h
def o_lret : zO := fun X K Q h pc ls st => pL st fun z r => r = [] ∧ Q (some (vL z)) h
def o_aret : zO := fun X K Q h pc ls st => pO st fun z r => r = [] ∧ Q (some (vO z)) h
def o_vret : zO := fun X K Q h pc ls st => st = [] ∧ Q none h
theorem s_iret {μ : zM} {pc : Nat} (hd : decode μ.2.1 pc = .ok (.ireturn, 1)) (hr : μ.2.2.2 = some .int) : z_S μ pc o_iret := by
  intro l G lv mc ms Q cells slots K hK h ls st ho
  have ho1 := pI_inv ho
  clear ho
  obtain ⟨z, r, rfl, rfl, hq⟩ := ho1
  intro p e s m args below meth c H locs A C hR hS hL hn hc1 hc2 hlv
  refine W.widen (k := mc) (n := ms) hc1 hc2 ?_
  exact W.iret C.1 C.2.1 (C.2.2.2.1.trans hr) (fun t ht hW => ⟨⟨some (vI z), h, rfl, hq, by rw [ht]; exact hR⟩, hS.F ht⟩) hS.2.2 hd C.2.2.2.2.1
theorem s_zret {μ : zM} {pc : Nat} (hd : decode μ.2.1 pc = .ok (.ireturn, 1)) (hr : μ.2.2.2 = some .boolean) : z_S μ pc o_zret := by
  intro l G lv mc ms Q cells slots K hK h ls st ho
  have ho1 := pI_inv ho
  clear ho
  obtain ⟨z, r, rfl, rfl, hz, hq⟩ := ho1
  intro p e s m args below meth c H locs A C hR hS hL hn hc1 hc2 hlv
  refine W.widen (k := mc) (n := ms) hc1 hc2 ?_
  exact W.zret C.1 C.2.1 (C.2.2.2.1.trans hr) (by rcases hz with rfl | rfl <;> rfl) (fun t ht hW => ⟨⟨some (vI z), h, rfl, hq, by rw [ht]; exact hR⟩, hS.F ht⟩) hS.2.2 hd C.2.2.2.2.1
theorem s_vret {μ : zM} {pc : Nat} (hd : decode μ.2.1 pc = .ok (.return_, 1)) (hr : μ.2.2.2 = none) : z_S μ pc o_vret := by
  intro l G lv mc ms Q cells slots K hK h ls st ho
  obtain ⟨rfl, hq⟩ := ho
  intro p e s m args below meth c H locs A C hR hS hL hn hc1 hc2 hlv
  refine W.widen (k := mc) (n := ms) hc1 hc2 ?_
  exact W.vret C.1 C.2.1 (C.2.2.2.1.trans hr) (fun t ht hW => ⟨⟨none, h, rfl, hq, by rw [ht]; exact hR⟩, hS.F ht⟩) hS.2.2 hd C.2.2.2.2.1
theorem s_lret {μ : zM} {pc : Nat} (hd : decode μ.2.1 pc = .ok (.lreturn, 1)) (hr : μ.2.2.2 = some .long) : z_S μ pc o_lret := by
  intro l G lv mc ms Q cells slots K hK h ls st ho
  have ho1 := pL_inv ho
  clear ho
  obtain ⟨z, r, rfl, rfl, hq⟩ := ho1
  intro p e s m args below meth c H locs A C hR hS hL hn hc1 hc2 hlv
  refine W.widen (k := mc) (n := ms) hc1 hc2 ?_
  exact W.lret C.1 C.2.1 (C.2.2.2.1.trans hr) (fun t ht hW => ⟨⟨some (vL z), h, rfl, hq, by rw [ht]; exact hR⟩, hS.F ht⟩) hS.2.2 hd C.2.2.2.2.1
theorem s_aret {μ : zM} {pc : Nat} {C0 : String} (hd : decode μ.2.1 pc = .ok (.areturn, 1)) (hr : μ.2.2.2 = some (.object C0)) : z_S μ pc o_aret := by
  intro l G lv mc ms Q cells slots K hK h ls st ho
  have ho1 := pO_inv ho
  clear ho
  obtain ⟨z, r, rfl, rfl, hq⟩ := ho1
  intro p e s m args below meth c H locs A C hR hS hL hn hc1 hc2 hlv
  refine W.widen (k := mc) (n := ms) hc1 hc2 ?_
  exact W.aret C.1 C.2.1 (C.2.2.2.1.trans hr) (Or.inl ⟨_, rfl⟩) (by cases z with
    | none => exact Or.inl rfl
    | some a => exact Or.inr ⟨_, rfl⟩) (fun t ht hW => ⟨⟨some (vO z), h, rfl, hq, by rw [ht]; exact hR⟩, hS.F ht⟩) hS.2.2 hd C.2.2.2.2.1
def o_stop : zO := fun X K Q h pc ls st => X h pc ls st
theorem s_stop {μ : zM} {pc : Nat} : z_S μ pc o_stop := fun _ _ _ _ _ _ _ _ _ _ _ _ _ ho => ho
