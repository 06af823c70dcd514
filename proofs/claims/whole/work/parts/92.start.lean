/-! the law's loop -/
theorem y_len {L : Nat} (h : L ≤ 1536) : (Int32.ofNat L - 3).toInt = (L : Int) - 3 := by
  rw [Int32.toInt_sub, show (Int32.ofNat L).toInt = (L : Int) from nI_toInt (by omega), show (3 : Int32).toInt = 3 from by decide +kernel]
  exact Int.bmod_eq_of_le (by omega) (by omega)
theorem y_31 (x : Int32) : ∃ v : Nat, v < 32 ∧ (x &&& 31).toInt = (v : Int) := by
  have hz : z_and x.toInt 31 = (x &&& 31).toInt := by
    unfold z_and
    rw [z_oI]
    rfl
  have hb : ∀ i, i < 32 → 5 ≤ i → Nat.testBit 31 i = false := by decide
  have := tb_small (n := 5) (by omega) (x := z_and x.toInt 31) (by rw [hz]; exact InR_of _) (fun i h1 h2 => by
    rw [tb_and, show tb 31 i = Nat.testBit 31 i from tb_nat (n := 31) h2, hb i h2 h1, Bool.and_false])
  rw [hz] at this
  exact ⟨(x &&& 31).toInt.toNat, by omega, by omega⟩
theorem d32 : decode code 32 = .ok (.tableswitch 774 0 24 #[116, 149, 182, 215, 264, 297, 310, 333, 346, 369, 382, 421, 444, 457, 480, 513, 536, 559, 582, 615, 648, 681, 704, 737, 760], 116) := by decide +kernel
set_option maxRecDepth 8000 in
theorem law_case {p : Program} {l : Launch} {e : Env} {s : State} {m : MethodId} {below : List Frame} {meth : Method} {c : Code} {b L : Nat} {xs : Nat → Int32} {G : zG} {i cells slots : Nat} {ls : Array Slot} {S : zS} {x : Int32} (Y : yA p s m meth c b L xs G i cells slots ls) (K : ∀ S', yJ p l e s m below meth c b G S' (cells + 7) (slots + 92) 806 ls) : ∀ (h : zH) (H : Heap) (locs : List Loc), CI h S → MI h S → z_Rel G h H → va_S (fun q => G.1 ≤ q) s.heap H locs → W p l e room_1 s m #[Value.ref b] below meth c H locs cells slots (lw_Z below #[Value.ref b] s) (F0 m 32 ls [.int (x &&& 31)]) := by
  intro h H locs hC hM hR hS
  have hx := Y.1.1
  have hb := Y.1.2.1
  obtain ⟨v, hv, he⟩ := y_31 x
  by_cases h24 : v ≤ 24
  · have go : ∀ (off : Int) (tgt : Nat), #[116, 149, 182, 215, 264, 297, 310, 333, 346, 369, 382, 421, 444, 457, 480, 513, 536, 559, 582, 615, 648, 681, 704, 737, 760][v]? = some off → ((32 : Nat) : Int) + off = (tgt : Int) → yJ p l e s m below meth c b G S cells slots tgt ls → W p l e room_1 s m #[Value.ref b] below meth c H locs cells slots (lw_Z below #[Value.ref b] s) (F0 m 32 ls [.int (x &&& 31)]) := by
      intro off tgt ho ht hJ
      refine lv_tableIn (off := off) (tgt := tgt) hx hb d32 (by omega) (by omega) ?_ ht (hJ h H locs hC hM hR hS)
      rw [he, show ((v : Int) - 0).toNat = v by omega]
      exact ho
    match v, h24 with
    | 0, _ => exact go 116 148 rfl rfl (lc_publish Y K)
    | 1, _ => exact go 149 181 rfl rfl (lc_yank Y K)
    | 2, _ => exact go 182 214 rfl rfl (lc_version Y K)
    | 3, _ => exact go 215 247 rfl rfl (lc_setFeature Y K)
    | 4, _ => exact go 264 296 rfl rfl (lc_setLock Y K)
    | 5, _ => exact go 297 329 rfl rfl (lc_takeLock Y K)
    | 6, _ => exact go 310 342 rfl rfl (lc_locked Y K)
    | 7, _ => exact go 333 365 rfl rfl (lc_undo Y K)
    | 8, _ => exact go 346 378 rfl rfl (lc_type Y K)
    | 9, _ => exact go 369 401 rfl rfl (lc_clearText Y K)
    | 10, _ => exact go 382 414 rfl rfl (lc_fault Y K)
    | 11, _ => exact go 421 453 rfl rfl (lc_contains Y K)
    | 12, _ => exact go 444 476 rfl rfl (lc_add Y K)
    | 13, _ => exact go 457 489 rfl rfl (lc_drop Y K)
    | 14, _ => exact go 480 512 rfl rfl (lc_rule Y K)
    | 15, _ => exact go 513 545 rfl rfl (lc_solve Y K)
    | 16, _ => exact go 536 568 rfl rfl (lc_chosen Y K)
    | 17, _ => exact go 559 591 rfl rfl (lc_solutions Y K)
    | 18, _ => exact go 582 614 rfl rfl (lc_possible Y K)
    | 19, _ => exact go 615 647 rfl rfl (lc_narrowed Y K)
    | 20, _ => exact go 648 680 rfl rfl (lc_why Y K)
    | 21, _ => exact go 681 713 rfl rfl (lc_refusal Y K)
    | 22, _ => exact go 704 736 rfl rfl (lc_wouldChange Y K)
    | 23, _ => exact go 737 769 rfl rfl (lc_count Y K)
    | 24, _ => exact go 760 792 rfl rfl (lc_digest Y K)
    | n + 25, h24 => exact absurd h24 (by omega)
  · refine lv_tableOut (tgt := 806) hx hb d32 (Or.inr (by omega)) rfl ?_
    have k1 := Y.2.2.2.2.2.2.1
    refine W.widen (k := cells + 7) (n := slots + 92) (by omega) (by omega) ?_
    exact K S h H locs hC hM hR hS
set_option maxRecDepth 8000 in
theorem law_loop {p : Program} {l : Launch} {e : Env} {s : State} {m : MethodId} {below : List Frame} {meth : Method} {c : Code} {b L : Nat} {xs : Nat → Int32} {G : zG} (hL : L ≤ 1536) (C0 : lw_At p s m meth c b L xs) (hG : G.1 = s.heap.size) (hKn : z_Kn G s) : ∀ (d k : Nat) (S : zS) (ls : Array Slot), k + d = 513 → lv_has ls 4 [(0, .ref b), (1, .ref (G.1 + 0)), (2, .ref (G.1 + 93)), (3, .int (nI (3 * k)))] → yJ p l e s m below meth c b G S (109 + 7 * k) (17215 + 92 * k) 18 ls := by
  obtain ⟨hx, hb, hrt, hml, hown, hts0, hX, hbl, hlocks, hgv⟩ := id C0
  have hbA : ¬ (fun q : Nat => G.1 ≤ q) b := by show ¬ G.1 ≤ b; omega
  intro d
  induction d with
  | zero =>
    intro k S ls hk hl h H locs hC hM hR hS
    obtain rfl : k = 513 := by omega
    refine lv_iload_n hx hb (by decide +kernel : decode code 18 = .ok (.iload_n 3, 1)) rfl (lv_at hl 3 rfl) ?_
    refine lv_aload_n hx hb (by decide +kernel : decode code 19 = .ok (.aload_n 0, 1)) rfl (lv_at hl 0 rfl) ?_
    refine va_slen hx hb hX hbl hbA hS (by decide +kernel : decode code 20 = .ok (.arraylength, 1)) ?_
    refine lv_iconst (v := 3) hx hb (by decide +kernel : decode code 21 = .ok (.iconst 3, 1)) (by decide) ?_
    refine lv_isub hx hb (by decide +kernel : decode code 22 = .ok (.isub, 1)) ?_
    refine lv_icmp_gt (tgt := 812) hx hb (by decide +kernel : decode code 23 = .ok (.if_icmp .gt 789, 3)) (by decide) (fun q => ?_) (fun q => ?_)
    · refine lv_iconst (v := 1) hx hb (by decide +kernel : decode code 812 = .ok (.iconst 1, 1)) (by decide) ?_
      refine va_forget (fun q hq => by have := hS.2.2 q hq; rw [hG] at this; exact this) ?_
      refine W.widen (k := 600000) (n := 7302249) (by omega) (by omega) ?_
      exact lw_ret hx hb hrt hlocks (by decide +kernel)
    · exfalso
      apply q
      rw [Int32.lt_iff_toInt_lt, y_len hL, nI_toInt (by omega)]
      omega
  | succ d ih =>
    intro k S ls hk hl h H locs hC hM hR hS
    refine lv_iload_n hx hb (by decide +kernel : decode code 18 = .ok (.iload_n 3, 1)) rfl (lv_at hl 3 rfl) ?_
    refine lv_aload_n hx hb (by decide +kernel : decode code 19 = .ok (.aload_n 0, 1)) rfl (lv_at hl 0 rfl) ?_
    refine va_slen hx hb hX hbl hbA hS (by decide +kernel : decode code 20 = .ok (.arraylength, 1)) ?_
    refine lv_iconst (v := 3) hx hb (by decide +kernel : decode code 21 = .ok (.iconst 3, 1)) (by decide) ?_
    refine lv_isub hx hb (by decide +kernel : decode code 22 = .ok (.isub, 1)) ?_
    refine lv_icmp_gt (tgt := 812) hx hb (by decide +kernel : decode code 23 = .ok (.if_icmp .gt 789, 3)) (by decide) (fun q => ?_) (fun q => ?_)
    · refine lv_iconst (v := 1) hx hb (by decide +kernel : decode code 812 = .ok (.iconst 1, 1)) (by decide) ?_
      refine va_forget (fun q hq => by have := hS.2.2 q hq; rw [hG] at this; exact this) ?_
      refine W.widen (k := 600000) (n := 7302249) (by omega) (by omega) ?_
      exact lw_ret hx hb hrt hlocks (by decide +kernel)
    · have hi : 3 * k + 3 ≤ L := by
        rw [Int32.lt_iff_toInt_lt, y_len hL, nI_toInt (by omega)] at q
        omega
      have Y : yA p s m meth c b L xs G (3 * k) (109 + 7 * k) (17215 + 92 * k) ls := ⟨C0, hL, hG, hKn, hl, hi, by omega, by omega⟩
      refine lv_aload_n hx hb (by decide +kernel : decode code 26 = .ok (.aload_n 0, 1)) rfl (lv_at hl 0 rfl) ?_
      refine lv_iload_n hx hb (by decide +kernel : decode code 27 = .ok (.iload_n 3, 1)) rfl (lv_at hl 3 rfl) ?_
      refine va_sld hx hb hX hbl hbA hS (vp_in_nI (by omega) (by omega)) (by decide +kernel : decode code 28 = .ok (.iaload, 1)) ?_
      refine lv_bipush (v := 31) hx hb (by decide +kernel : decode code 29 = .ok (.bipush 31, 2)) (by decide) ?_
      refine lv_iand hx hb (by decide +kernel : decode code 31 = .ok (.iand, 1)) ?_
      refine law_case Y (fun S' => ?_) h H locs hC hM hR hS
      intro h1 H1 locs1 hC1 hM1 hR1 hS1
      refine lv_iinc (v := nI (3 * (k + 1))) (lv' := [(3, .int (nI (3 * (k + 1)))), (0, .ref b), (1, .ref (G.1 + 0)), (2, .ref (G.1 + 93))]) hx hb (by decide +kernel : decode code 806 = .ok (.iinc 3 3, 3)) hl (k := 3) rfl ?_ (by decide) rfl (fun ls' hl' => ?_)
      · rw [show Int32.ofInt 3 = nI 3 from by decide +kernel, nI_add]
        congr 1
      · refine lv_goto (tgt := 18) hx hb (by decide +kernel : decode code 809 = .ok (.goto (-791), 3)) (by decide) ?_
        have := ih (k + 1) S' ls' (by omega) (lv_sub hl' [1, 2, 3, 0] rfl) h1 H1 locs1 hC1 hM1 hR1 hS1
        rw [show 109 + 7 * (k + 1) = 109 + 7 * k + 7 by omega, show 17215 + 92 * (k + 1) = 17215 + 92 * k + 92 by omega] at this
        exact this
def hh0 : zH := ((0, fun _ => (14, 0)), fun _ _ => 0, fun _ _ => 0, fun _ _ => none)
set_option maxRecDepth 8000 in
/-- YOUR PART: from the entry, for every script of at most 1536 ints, the law comes to its end with true -/
theorem whole_start {p : Program} {e : Env} {s : State} {m : MethodId} {below : List Frame} {meth : Method} {c : Code} (l : Launch) (hflags : l.flags = flags0) {b L : Nat} {xs : Nat → Int32} (hL : L ≤ 1536) (C0 : lw_At p s m meth c b L xs) : W p l e room_1 s m #[Value.ref b] below meth c s.heap [] 0 0 (lw_Z below #[Value.ref b] s) (entryFrame m ([Value.ref b] : List Value).toArray 4) := by
  obtain ⟨hx, hb, hrt, hml, hown, hts0, hX, hbl, hlocks, hgv⟩ := id C0
  obtain ⟨G, hG, hKn⟩ := y_Kn hts0
  have hR0 : z_Rel G hh0 s.heap := by
    refine ⟨fun k q hq => ?_, ?_, fun a _ => ?_⟩
    · obtain ⟨h1, -⟩ := z_ws_some hq
      exact absurd h1 (Nat.not_lt_zero k)
    · rw [hG]
      rfl
    · show 14 ≤ 14
      omega
  have hS0 : va_S (fun q => G.1 ≤ q) s.heap s.heap [] := va_S.rf
  have hl := lv_entry ([.ref b]) (n := 4) (Nat.le_of_ble_eq_true rfl)
  rw [lg_entry_eq]
  generalize (lg_sl ([.ref b]) ++ List.replicate (4 - (lg_sl ([.ref b])).length) Slot.unset).toArray = ls at hl ⊢
  have hl : lv_has ls 4 [(0, .ref b)] := hl
  refine y_new (c0 := 7) C0 hKn (by decide +kernel : decode code 0 = .ok (.new 7, 3)) (by decide) lw_L_7 in_X7 (by decide) (by decide) hR0 hS0 (fun H1 hR1 hS1 => ?_)
  have g1 : gS (nC hh0 (7, 0)) = 1 := rfl
  have k1 : (gK (nC hh0 (7, 0)) 0).1 = 7 := rfl
  rw [show gS hh0 = 0 from rfl]
  generalize nC hh0 (7, 0) = h1 at *
  refine lv_dup hx hb (by decide +kernel : decode code 3 = .ok (.dup, 1)) rfl ?_
  refine y_callI (rest := [.ref (G.1 + 0)]) (av := []) (a := 0) C0 hG hKn (by decide +kernel : decode code 4 = .ok (.invokespecial 9, 3)) cv_L_9 (sp_VrInit l G h1 k1 g1 20 (by omega)) (by omega) rfl (by decide) (by decide) hR1 hS1 hl.1 rfl (by simp [Value.category]) (fun r h2 H2 locs2 hq hR2 hS2 => ?_)
  obtain ⟨rfl, g2, e2⟩ := hq
  refine lv_astore_n (lv' := [(1, .ref (G.1 + 0)), (0, .ref b)]) hx hb (by decide +kernel : decode code 7 = .ok (.astore_n 1, 1)) rfl hl (by decide) rfl (fun ls hl => ?_)
  refine y_new (c0 := 8) C0 hKn (by decide +kernel : decode code 8 = .ok (.new 10, 3)) (by decide) lw_L_10 in_X8 (by decide) (by decide) hR2 hS2 (fun H3 hR3 hS3 => ?_)
  rw [g2]
  have g3 : gS (nC h2 (8, 0)) = 94 := by rw [mS_nC, g2]
  have k3 : (gK (nC h2 (8, 0)) 93).1 = 8 := by have q := mK_n1 h2 (8, 0); rw [g2] at q; rw [q]
  have i3 : ∀ k, gI (nC h2 (8, 0)) 93 k = 0 := fun k => by rw [mI_nC, if_pos g2.symm]
  have e3 : VrE (nC h2 (8, 0)) := VrE.sm (fun a ha => Sa.n (by omega)) e2
  generalize nC h2 (8, 0) = h3 at *
  refine lv_dup hx hb (by decide +kernel : decode code 11 = .ok (.dup, 1)) rfl ?_
  refine y_callI (rest := [.ref (G.1 + 93)]) (av := []) (a := 93) C0 hG hKn (by decide +kernel : decode code 12 = .ok (.invokespecial 12, 3)) cv_L_12 (sm_init l G h3 k3 g3 i3 20 (by omega)) (by omega) rfl (by decide) (by decide) hR3 hS3 hl.1 rfl (by simp [Value.category]) (fun r h4 H4 locs4 hq hR4 hS4 => ?_)
  obtain ⟨rfl, g4, s4, hM4⟩ := hq
  have hC4 : CI h4 s0S := VrE.ok (VrE.sm s4 e3) (by omega)
  refine lv_astore_n (lv' := [(2, .ref (G.1 + 93)), (1, .ref (G.1 + 0)), (0, .ref b)]) hx hb (by decide +kernel : decode code 15 = .ok (.astore_n 2, 1)) rfl hl (by decide) rfl (fun ls hl => ?_)
  refine lv_iconst (v := 0) hx hb (by decide +kernel : decode code 16 = .ok (.iconst 0, 1)) (by decide) ?_
  refine lv_istore_n (lv' := [(3, .int 0), (2, .ref (G.1 + 93)), (1, .ref (G.1 + 0)), (0, .ref b)]) hx hb (by decide +kernel : decode code 17 = .ok (.istore_n 3, 1)) rfl hl (by decide) rfl (fun ls hl => ?_)
  refine W.widen (k := 109) (n := 17215) (by decide) (by decide) ?_
  exact law_loop hL C0 hG hKn 513 0 s0S ls (by omega) (lv_sub hl [3, 2, 1, 0] rfl) h4 H4 locs4 hC4 hM4 hR4 hS4
set_option maxHeartbeats 4000000 in
theorem lw_walk (l : Launch) (hflags : l.flags = flags0) (b : Addr) (xs : List Int32) : MetFree l x (headSpec (Jvm.Cond.code x code maxLocals ret :: tables_1) room_1) (lw_P b xs) (fun _ _ _ _ _ => True) lw_Q := by
  refine MetFree.of_bodyS (code := code) (maxLocals := maxLocals) (ret := ret) (by decide) ?_ ?_
  · intro args s m h hn
    obtain ⟨meth, c, h1, h2, h3, h4, h5, h6, -, -⟩ := Cond.code_spec hn (atoms_spec (ws := Jvm.Cond.code x code maxLocals ret :: tables_1) h _ List.mem_cons_self)
    exact ⟨meth, c, h1, h2, h3, h4, h5, h6⟩
  · intro p e s m args below meth c s₁ B hml0 hP _
    obtain ⟨rfl, hx, hbd, hgv⟩ := hP
    obtain ⟨scr, harrAt, hlist, hof, hsmall⟩ := hx
    obtain ⟨hcb, hkn, -, -⟩ := State.arrayAt?_spec harrAt
    have hown : s.vm.findClass R_law = some m.cls := findClass_of_methodNamed B.named
    have hts0 : ∀ c ∈ (Jvm.Cond.code x code maxLocals ret :: tables_1), c.before #[Value.ref b] s = true := atoms_spec (ws := Jvm.Cond.code x code maxLocals ret :: tables_1) B.pre
    have hts : ∀ w ∈ lw_tbl, w.before #[Value.ref b] s = true := k2_hts_sels lw_privs (fun w hw => hts0 w (List.mem_cons_of_mem _ hw)) lw_privs_ok
    have hml : c.maxLocals = 4 := B.maxLocals_eq (hts0 _ List.mem_cons_self)
    have X₀ : Stand p l e room_1 s m #[Value.ref b] below meth c s₁ [] 0 0 := Stand.of_body B
    have hh0 : s₁.heap = s.heap := by rw [B.state]; rfl
    have hsz : scr.slots.size = xs.length := by rw [← Array.length_toList, hlist, List.length_map]
    have hval : ∀ j : Nat, j < xs.length → scr.slots[j]? = some (.int (xs.getD j 0)) := fun j hj => by
      rw [← Array.getElem?_toList, hlist]
      simp [hj]
    have hbl : b < s.heap.size := (Array.getElem?_eq_some_iff.mp hcb).1
    have hX : va_X b xs.length (fun j => xs.getD j 0) s s.heap := ⟨scr, hcb, hof, hkn, hsz, hval⟩
    have K : W p l e room_1 s m #[Value.ref b] below meth c s₁.heap [] 0 0 (lw_Z below #[Value.ref b] s) (entryFrame m ([Value.ref b] : List Value).toArray 4) := by
      rw [hh0]
      exact whole_start l hflags hbd ⟨B.exec, B.bytes, B.returns, hml, hown, hts, hX, hbl, B.notSynchronized, hgv⟩
    obtain ⟨t, a1, o, b1, b2, b3⟩ := K s₁ rfl X₀
    exact ⟨t, o, a1, b1, b2, b3⟩
theorem lw_pre_spec {args : Array Value} {s : State} (h : (Jvm.Cond.and given_1 narrow_1).before args s = true) (hr : rest_1_c.before args s = true) : ∃ (b : Addr) (xs : List Int32), lw_P b xs args s := by
  have hs := flat_of_before _ h
  have hq := flat_of_before _ hr
  have hc : (Cond.count 1).before args s = true := hs _ (by decide +kernel)
  have harr : (Cond.arrayOf (.arg 0) .int).before args s = true := hs _ (by decide +kernel)
  have hle : (Cond.le (.length (.arg 0)) (.int 1536)).before args s = true := hs _ (by decide +kernel)
  have hlen : (Cond.isInt (.length (.arg 0))).before args s = true := hq _ (by decide +kernel)
  have hall : (Cond.all (.arg 0) (.isInt (.elem (.arg 0) (.index 0)))).before args s = true := hq _ (by decide +kernel)
  obtain ⟨b, xs, hb, hx⟩ := State.ints_of_pre rfl harr hlen hall
  have hsm : xs.length < 2 ^ 31 := hx.choose_spec.2.2.2
  have hev : (Term.length (.arg 0)).eval args s none [] s = some (.int xs.length.toInt32) := hx.length_eval hb
  have hv := Cond.le_ints hev (show (Term.int 1536).eval args s none [] s = some (.int 1536) from rfl)
  have hd : xs.length.toInt32 ≤ 1536 := by
    simpa [Cond.before, Cond.holds, hv] using hle
  have hN : xs.length ≤ 1536 := (Int32.ofNat_le_ofNat hsm (by decide)).mp (show Int32.ofNat xs.length ≤ Int32.ofNat 1536 from hd)
  exact ⟨b, xs, Cond.one_arg hc (show args[0]? = some (.ref b) from hb), hx, hN, h⟩
theorem lw_comes (l : Launch) (hflags : l.flags = flags0) : Comes l x (Jvm.Cond.code x code maxLocals ret :: tables_1) room_1 (fun tb e args s => Calls_1 tb e args s ∧ rest_1 tb e args s ∧ Pre_1 tb e args s)
    (fun _ _ args s o t => lw_Q args s o t) := by
  intro p e ha hc hk s m args below hf hfit hheap happ hpre
  obtain ⟨b, xs, hP⟩ := lw_pre_spec hpre.2.2 hpre.2.1
  obtain ⟨k, o, h1, h2, h3, hQ⟩ := lw_walk l hflags b xs p e ha hc hk s m args below hf ((Spec.applies_iff_loose hf).mp happ).1 hP trivial
  exact ⟨k, o, h1, h2, h3, hQ⟩
theorem lw_frame {s t : State} {o : Outcome} {args : Array Value} (h : Framed s o t [] 600000 7302249) :
    Framed s o t (fieldLocs frame_1_writes args s ++ arrayLocs frame_1_arrays args s ++ staticLocs frame_1_statics s) 600000 7302249 := h
theorem lw_limb (L : Cond) (hL : ∀ (args : Array Value) (s t : State), L.after args s (.returned (some (.int 1))) t = true) :
    ArmFor flags0 classFile x code maxLocals ret World_1 tables_1 room_1 Calls_1 rest_1 Pre_1
      (fun tb e a s o t => postC L tb e a s o t ∧ Framed s o t (fieldLocs frame_1_writes a s ++ arrayLocs frame_1_arrays a s ++ staticLocs frame_1_statics s) 600000 7302249) := by
  intro l hflags _ _ p e ha hc hk s m args below hf hfit hheap happ hpre
  obtain ⟨k, o, h1, h2, h3, rfl, hF⟩ := lw_comes l hflags p e ha hc hk s m args below hf hfit hheap happ hpre
  exact ⟨k, _, h1, h2, h3, hL args s _, lw_frame hF⟩
theorem i_vc : Claimed_1_1 ∧ Claimed_1_2 := ⟨lw_limb limb_1_1 (fun args s t => by simp [limb_1_1, Cond.after, Cond.holds, Cond.value]), lw_limb limb_1_2 (fun args s t => Cond.after_iff.mpr (by
  first | (rw [show limb_1_2 = Cond.eq .result (.int 1) from rfl, Cond.eq_ints (x := 1) (y := 1) rfl rfl]; simp; done) | (simp [limb_1_2, Cond.value, Term.eval]; done)))⟩
