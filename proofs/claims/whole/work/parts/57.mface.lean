/-! the reference's face (own text) -/
section
variable {l : Launch} {D : va_G} {ca : Nat → ClassId} {ks : List Nat} {lay : Nat → gxE} {ad : Nat → Nat} {F : Nat → Nat → Int32} {L : Nat → Nat → Int64} {N w n : Nat}
theorem opV_60 (w a b : Nat) : opV w (nI 60) a b = if a < b then 1 else 0 := by
  unfold opV
  rw [if_neg (by decide), if_neg (by decide), if_neg (by decide), if_neg (by decide), if_neg (by decide), if_pos rfl]
theorem opV_61 (w a b : Nat) : opV w (nI 61) a b = if a = b then 1 else 0 := by
  unfold opV
  rw [if_neg (by decide), if_neg (by decide), if_neg (by decide), if_neg (by decide), if_neg (by decide), if_neg (by decide), if_pos rfl]
theorem opV_35 (w a b : Nat) : opV w (nI 35) a b = if a = b then 0 else 1 := by
  unfold opV
  rw [if_neg (by decide), if_neg (by decide), if_neg (by decide), if_neg (by decide), if_neg (by decide), if_neg (by decide), if_neg (by decide)]
/-- what the reading of an atom gives -/
theorem rlA_val {f : Nat → Int32} (hw : w < 4) (h0 : 0 < w) (hn : n ≤ 24) {b rel q : Nat} (h : rlA n f b = some rel) : rel < n ∧ b < rel ∧ isCmp (f rel) = true ∧ ∃ v1 v2, v1 < 2 ^ w ∧ v2 < 2 ^ w ∧ vlC w q (ptAtom n f b).2 = opV w (f rel) v1 v2 ∧ (∀ (V O : Nat → Int32), O 0 = nI 0 → ∃ V' O', rnW w q f (rel - b) b (0, V, O) (0, V', O') ∧ V' 0 = nI v1) ∧ (rel + 1 < n ∧ ∀ (V O : Nat → Int32), O 0 = nI 0 → ∃ V' O', rnW w q f (n - (rel + 1)) (rel + 1) (0, V, O) (0, V', O') ∧ V' 0 = nI v2) := by
  unfold rlA at h
  have e1 : sc n f 0 true b = _ := sc_term (f := f) hn (b, [])
  by_cases t1 : (ptTerm n f (ptPart n f 4) (b, [])).1 = true
  · rw [if_pos t1] at e1
    rw [e1] at h
    have h : (if isCmp (lnAt n f (ptTerm n f (ptPart n f 4) (b, [])).2.1) = true then (if sc n f 0 true ((ptTerm n f (ptPart n f 4) (b, [])).2.1 + 1) = some n then some (ptTerm n f (ptPart n f 4) (b, [])).2.1 else none) else none) = some rel := h
    by_cases c1 : isCmp (lnAt n f (ptTerm n f (ptPart n f 4) (b, [])).2.1) = true
    · rw [if_pos c1] at h
      by_cases c2 : sc n f 0 true ((ptTerm n f (ptPart n f 4) (b, [])).2.1 + 1) = some n
      · rw [if_pos c2] at h
        have hr : (ptTerm n f (ptPart n f 4) (b, [])).2.1 = rel := Option.some.inj h
        have w1 := wq_ok (q := q) hw h0 hn (b, []) (Nat.zero_le _) t1
        have hl1 := w1.len (Nat.zero_le _)
        have e2 : sc n f 0 true ((ptTerm n f (ptPart n f 4) (b, [])).2.1 + 1) = _ := sc_term (f := f) hn ((ptTerm n f (ptPart n f 4) (b, [])).2.1 + 1, (ptTerm n f (ptPart n f 4) (b, [])).2.2)
        rw [c2] at e2
        by_cases t2 : (ptTerm n f (ptPart n f 4) ((ptTerm n f (ptPart n f 4) (b, [])).2.1 + 1, (ptTerm n f (ptPart n f 4) (b, [])).2.2)).1 = true
        · rw [if_pos t2] at e2
          have w2 := wq_ok (q := q) hw h0 hn ((ptTerm n f (ptPart n f 4) (b, [])).2.1 + 1, (ptTerm n f (ptPart n f 4) (b, [])).2.2) (Nat.le_succ_of_le hl1) t2
          have he2 := (Option.some.inj e2).symm
          have hat : (ptAtom n f b).2 = addC (lnAt n f (ptTerm n f (ptPart n f 4) (b, [])).2.1) (ptTerm n f (ptPart n f 4) ((ptTerm n f (ptPart n f 4) (b, [])).2.1 + 1, (ptTerm n f (ptPart n f 4) (b, [])).2.2)).2.2 := by
            unfold ptAtom
            rw [if_pos ⟨t1, c1⟩, if_pos t2]
          rw [hat]
          generalize (ptTerm n f (ptPart n f 4) ((ptTerm n f (ptPart n f 4) (b, [])).2.1 + 1, (ptTerm n f (ptPart n f 4) (b, [])).2.2)).2 = r2 at w2 he2 ⊢
          generalize (ptTerm n f (ptPart n f 4) (b, [])).2 = r1 at w1 w2 hr c1 ⊢
          obtain ⟨tl1, v1, a1, a2, a3, a4, a5, a6, a7⟩ := w1
          obtain ⟨tl2, v2, b1, b2, b3, b4, b5, b6, b7⟩ := w2
          have a1 : r1.2 = [] ++ tl1 := a1
          have a3 : b < r1.1 := a3
          have b1 : r2.2 = r1.2 ++ tl2 := b1
          have b2 : tl2.length + (r1.1 + 1) ≤ r2.1 := b2
          have b3 : r1.1 + 1 < r2.1 := b3
          have a2 : tl1.length + b ≤ r1.1 := a2
          subst hr
          have hlt : r1.1 < n := by omega
          rw [ln_f hlt] at c1 ⊢
          refine ⟨hlt, a3, c1, v1, v2, a5, b5, ?_, fun V O hO => ?_, by omega, fun V O hO => ?_⟩
          · unfold vlC addC
            rw [b1, a1, if_pos (by simp; omega), List.nil_append, evC_app, evC_app, a6, b6, evS_op (isCmp_not c1)]
            rfl
          · obtain ⟨V', O', x1, -, x3⟩ := a7 V O hO
            exact ⟨V', O', x1, x3⟩
          · obtain ⟨V', O', x1, -, x3⟩ := b7 V O hO
            have x1 : rnW w q f (r2.1 - (r1.1 + 1)) (r1.1 + 1) (0, V, O) (0, V', O') := x1
            rw [he2] at x1
            exact ⟨V', O', x1, x3⟩
        · rw [if_neg t2] at e2
          cases e2
      · rw [if_neg c2] at h
        cases h
    · rw [if_neg c1] at h
      cases h
  · rw [if_neg t1] at e1
    rw [e1] at h
    cases h
set_option maxHeartbeats 4000000 in
theorem c_Mo_atom (HX : gH ks lay N sM) (hS : MsOK F w) (hn : n ≤ 24) (h5 : F 40 5 = nI n) {b rel q : Nat} (hq : q < 512) (hrl : rlA n (F 41) b = some rel) : Con l y_Mo_atom (Cond.code y_Mo_atom b_Mo_atom 6 (some .boolean) :: WT) rm_Mo_atom D vcl ca ks lay ad [xR 40, xI (nI b), xI (nI rel), xI (nI q)] F L (fun r F' L' => r = some (xI (cond (Nat.blt 0 (vlC w q (ptAtom n (F 41) b).2)) 1 0)) ∧ L' = L ∧ ∀ a, a ≠ 58 → a ≠ 59 → F' a = F a) := by
  have hw : w < 4 := by have := hS.1; omega
  have hw0 : 0 < w := by have := hS.1; omega
  have h8 := pu_p8 w hw
  obtain ⟨r1, r2, r3, v1, v2, r4, r5, r6, r7, r8, r9⟩ := rlA_val (q := q) hw hw0 hn hrl
  rw [r6]
  refine Con.ofK (fun post K => ?_)
  refine Con.of (ls := [(0, xR 40), (1, xI (nI b)), (2, xI (nI rel)), (3, xI (nI q))]) (by decide) rfl rfl (Nat.le_of_ble_eq_true rfl) ?_
  intro p e s m args below meth c A X hr hA
  obtain ⟨V1, O1, x1, x2⟩ := r7 (F 58) (upd (F 59) 0 (nI 0)) upd_at
  refine gx_aload_n X d_Mo_atom_0 rfl rfl ?_
  refine gx_iload_n X d_Mo_atom_1 rfl rfl ?_
  refine gx_iload_n X d_Mo_atom_2 rfl rfl ?_
  refine gx_iload_n X d_Mo_atom_3 rfl rfl ?_
  refine gx_callV X d_Mo_atom_4 mf_Mo_worked lk_Mo_119 (c_Mo_worked HX hS (i0 := b) (m0 := rel - b) (e0 := rel) (by omega) (by omega) hq x1) (HX _ rfl).1 (HX _ rfl).2 rfl rfl rfl (Nat.le_of_ble_eq_true rfl) ⟨by decide, by decide⟩ ⟨rfl, rfl⟩ ⟨Nat.zero_le _, Nat.zero_le _⟩ (fun r4 F4 L4 hp4 => ?_)
  obtain ⟨rfl, rfl, m1⟩ := hp4
  refine gx_top (y := nI v1) x2 ?_
  have hS2 : MsOK F4 w := hS.of (fun j hj => by rw [m1 40 (by decide) (by decide)])
  obtain ⟨V2, O2, y1, y2⟩ := r9 (F4 58) (upd (F4 59) 0 (nI 0)) upd_at
  refine gx_istore X d_Mo_atom_7 (by decide) ?_
  refine gx_aload_n X d_Mo_atom_9 rfl rfl ?_
  refine gx_iload_n X d_Mo_atom_10 rfl rfl ?_
  refine gx_iconst X d_Mo_atom_11 (v := nI 1) (by decide) ?_
  refine gx_iadd X d_Mo_atom_12 ?_
  refine gx_top (y := nI (rel + 1)) (nI_add rel 1) ?_
  refine gx_aload_n X d_Mo_atom_13 rfl rfl ?_
  refine gx_geti X d_Mo_atom_14 (gci in_Mo) (HX _ rfl).1 (HX _ rfl).2 rfl 5 (by decide) (gcw X lk_Mo_88) (fun _ h => h) rfl ?_
  refine gx_top (y := nI n) (by rw [m1 40 (by decide) (by decide)]; exact h5) ?_
  refine gx_iload_n X d_Mo_atom_17 rfl rfl ?_
  refine gx_callV X d_Mo_atom_18 mf_Mo_worked lk_Mo_119 (c_Mo_worked HX hS2 (i0 := rel + 1) (m0 := n - (rel + 1)) (e0 := n) (by omega) hn hq (by rw [m1 41 (by decide) (by decide)]; exact y1)) (HX _ rfl).1 (HX _ rfl).2 rfl rfl rfl (Nat.le_of_ble_eq_true rfl) ⟨by decide, by decide⟩ ⟨rfl, rfl⟩ ⟨Nat.zero_le _, Nat.zero_le _⟩ (fun r18 F18 L18 hp18 => ?_)
  obtain ⟨rfl, rfl, m2⟩ := hp18
  refine gx_top (y := nI v2) y2 ?_
  have e18 : ∀ a, a ≠ 58 → a ≠ 59 → F18 a = F a := fun a b1 b2 => by rw [m2 a b1 b2]; exact m1 a b1 b2
  have g41 : F18 41 rel = F 41 rel := by rw [e18 41 (by decide) (by decide)]
  generalize F 41 rel = ch at *
  refine gx_istore X d_Mo_atom_21 (by decide) ?_
  refine gx_aload_n X d_Mo_atom_23 rfl rfl ?_
  refine gx_getr X d_Mo_atom_24 (gci in_Mo) (HX _ rfl).1 (HX _ rfl).2 rfl 4 (by decide) (gcw X lk_Mo_7) (fun _ h => h) rfl ?_
  refine gx_iload_n X d_Mo_atom_27 rfl rfl ?_
  refine gx_iald X d_Mo_atom_28 (HX _ rfl).1 (HX _ rfl).2 rfl (by omega) (by omega) ?_
  refine gx_top g41 ?_
  refine gx_bipush X d_Mo_atom_29 (v := nI 60) (by decide) ?_
  refine gx_icmp_ne X d_Mo_atom_31 (tgt := 49) (by decide) (fun h31 => ?_) (fun h31 => ?_)
  · refine gx_aload_n X d_Mo_atom_49 rfl rfl ?_
    refine gx_getr X d_Mo_atom_50 (gci in_Mo) (HX _ rfl).1 (HX _ rfl).2 rfl 4 (by decide) (gcw X lk_Mo_7) (fun _ h => h) rfl ?_
    refine gx_iload_n X d_Mo_atom_53 rfl rfl ?_
    refine gx_iald X d_Mo_atom_54 (HX _ rfl).1 (HX _ rfl).2 rfl (by omega) (by omega) ?_
    refine gx_top g41 ?_
    refine gx_bipush X d_Mo_atom_55 (v := nI 61) (by decide) ?_
    refine gx_icmp_ne X d_Mo_atom_57 (tgt := 75) (by decide) (fun h57 => ?_) (fun h57 => ?_)
    · have hch : ch = nI 35 := by
        unfold isCmp at r3
        simp only [Bool.or_eq_true, decide_eq_true_eq] at r3
        rcases r3 with (h | h) | h
        · exact absurd h h31
        · exact absurd h h57
        · exact h
      subst hch
      rw [opV_35] at K
      refine gx_iload X d_Mo_atom_75 rfl ?_
      refine gx_iload X d_Mo_atom_77 rfl ?_
      refine gx_icmp_eq X d_Mo_atom_79 (tgt := 86) (by decide) (fun h79 => ?_) (fun h79 => ?_)
      · have he : v1 = v2 := (nI_eq (by omega) (by omega)).mp h79
        rw [if_pos he] at K
        refine gx_iconst X d_Mo_atom_86 (v := nI 0) (by decide) ?_
        refine gx_zret X hr (by first | rfl | decide) hA d_Mo_atom_87 (K _ _ _ ⟨rfl, rfl, e18⟩)
      · have he : ¬ v1 = v2 := fun z => h79 (by rw [z])
        rw [if_neg he] at K
        refine gx_iconst X d_Mo_atom_82 (v := nI 1) (by decide) ?_
        refine gx_goto X d_Mo_atom_83 (tgt := 87) (by decide) ?_
        refine gx_zret X hr (by first | rfl | decide) hA d_Mo_atom_87 (K _ _ _ ⟨rfl, rfl, e18⟩)
    · have hch : ch = nI 61 := h57
      subst hch
      rw [opV_61] at K
      refine gx_iload X d_Mo_atom_60 rfl ?_
      refine gx_iload X d_Mo_atom_62 rfl ?_
      refine gx_icmp_ne X d_Mo_atom_64 (tgt := 71) (by decide) (fun h64 => ?_) (fun h64 => ?_)
      · have he : ¬ v1 = v2 := fun z => h64 (by rw [z])
        rw [if_neg he] at K
        refine gx_iconst X d_Mo_atom_71 (v := nI 0) (by decide) ?_
        refine gx_goto X d_Mo_atom_72 (tgt := 87) (by decide) ?_
        refine gx_zret X hr (by first | rfl | decide) hA d_Mo_atom_87 (K _ _ _ ⟨rfl, rfl, e18⟩)
      · have he : v1 = v2 := (nI_eq (by omega) (by omega)).mp h64
        rw [if_pos he] at K
        refine gx_iconst X d_Mo_atom_67 (v := nI 1) (by decide) ?_
        refine gx_goto X d_Mo_atom_68 (tgt := 87) (by decide) ?_
        refine gx_zret X hr (by first | rfl | decide) hA d_Mo_atom_87 (K _ _ _ ⟨rfl, rfl, e18⟩)
  · have hch : ch = nI 60 := h31
    subst hch
    rw [opV_60] at K
    refine gx_iload X d_Mo_atom_34 rfl ?_
    refine gx_iload X d_Mo_atom_36 rfl ?_
    refine gx_icmp_ge X d_Mo_atom_38 (tgt := 45) (by decide) (fun h38 => ?_) (fun h38 => ?_)
    · have he : ¬ v1 < v2 := Nat.not_lt.mpr ((nI_leI (by omega) (by omega)).mp h38)
      rw [if_neg he] at K
      refine gx_iconst X d_Mo_atom_45 (v := nI 0) (by decide) ?_
      refine gx_goto X d_Mo_atom_46 (tgt := 87) (by decide) ?_
      refine gx_zret X hr (by first | rfl | decide) hA d_Mo_atom_87 (K _ _ _ ⟨rfl, rfl, e18⟩)
    · have he : v1 < v2 := Nat.lt_of_not_le (fun z => h38 ((nI_leI (by omega) (by omega)).mpr z))
      rw [if_pos he] at K
      refine gx_iconst X d_Mo_atom_41 (v := nI 1) (by decide) ?_
      refine gx_goto X d_Mo_atom_42 (tgt := 87) (by decide) ?_
      refine gx_zret X hr (by first | rfl | decide) hA d_Mo_atom_87 (K _ _ _ ⟨rfl, rfl, e18⟩)
/-- the reference's inputs -/
def MiV (F : Nat → Nat → Int32) (q : List Nat) : Prop := q.length ≤ 200 ∧ F 40 23 = nI q.length ∧ ∀ i, i < q.length → F 54 i = nI (q.getD i 0)
/-- the reference's line -/
def MlV (F : Nat → Nat → Int32) (n : Nat) (ln : Nat → Int32) : Prop := n ≤ 24 ∧ F 40 5 = nI n ∧ F 41 = ln ∧ ∀ i, i < n → ∃ ch, 32 ≤ ch ∧ ch ≤ 126 ∧ ln i = nI ch
/-- the reference holds z -/
def MOK (F : Nat → Nat → Int32) (L : Nat → Nat → Int64) (w : Nat) (z : kS) : Prop := MsOK F w ∧ MlV F z.n z.ln ∧ MeOK F L w z.ne z.ef z.et z.ek z.ev z.tg ∧ MgOK F L (2 ^ (3 * w)) z.np z.sg ∧ MrV F z.ns ∧ MpV F z.pt ∧ MiV F z.iq ∧ F 40 15 = z.oc
theorem MpV.of {G : Nat → Nat → Int32} {o : Option (List Nat)} (h : MpV F o) (e21 : G 40 21 = F 40 21) (e53 : G 53 = F 53) : MpV G o := by
  unfold MpV
  rw [e21, e53]
  exact h
theorem MiV.of {G : Nat → Nat → Int32} {o : List Nat} (h : MiV F o) (e21 : G 40 23 = F 40 23) (e53 : G 54 = F 54) : MiV G o := by
  unfold MiV
  rw [e21, e53]
  exact h
theorem MlV.of {G : Nat → Nat → Int32} {ln : Nat → Int32} (h : MlV F n ln) (e5 : G 40 5 = F 40 5) (e41 : G 41 = F 41) : MlV G n ln := by
  unfold MlV
  rw [e5, e41]
  exact h
/-- the cells and fields that hold z -/
theorem MOK.of {G : Nat → Nat → Int32} {M : Nat → Nat → Int64} {z : kS} (h : MOK F L w z) (e : ∀ a, 41 ≤ a ∧ a ≤ 54 → G a = F a) (e4 : ∀ j, j ≠ 3 → j ≠ 26 → G 40 j = F 40 j) (eL : ∀ a, a = 46 ∨ a = 47 → M a = L a) : MOK G M w z := by
  obtain ⟨h1, h2, h3, h4, h5, h6, h7, h8⟩ := h
  exact ⟨h1.of (fun j hj => e4 j (by omega) (by omega)), h2.of (e4 5 (by decide) (by decide)) (e 41 (by decide)), h3.of (e4 6 (by decide) (by decide)) (fun a ha => e a (by omega)) (eL 46 (Or.inl rfl)), h4.of (e4 12 (by decide) (by decide)) (e 48 (by decide)) (eL 47 (Or.inr rfl)), h5.of (e4 16 (by decide) (by decide)) (fun a ha => e a (by omega)), h6.of (e4 21 (by decide) (by decide)) (e 53 (by decide)), h7.of (e4 23 (by decide) (by decide)) (e 54 (by decide)), (e4 15 (by decide) (by decide)).trans h8⟩
/-- the answer's code is written -/
theorem MOK.cd {z : kS} (h : MOK F L w z) (x : Int32) : MOK (gxu F 40 3 x) L w z := h.of (fun a ha => gxu_cell (by omega)) (fun j b1 _ => gxu_ne (fun q => b1 q.2)) (fun _ _ => rfl)
theorem MlV.nz {ln : Nat → Int32} (h : MlV F n ln) : ∀ i, i < n → ¬ ln i = 0 := fun i hi => by
  obtain ⟨ch, a1, a2, a3⟩ := h.2.2.2 i hi
  rw [a3]
  exact fun z => nI_ne0 (by omega) (by omega) z
variable {z : kS}
theorem m_type (HX : gH ks lay N sM) (hz : MOK F L w z) (x : Int32) : Con l y_Mo_type (Cond.code y_Mo_type b_Mo_type 2 (some .int) :: WT) rm_Mo_type D vcl ca ks lay ad [xR 40, xI x] F L (fun r F' L' => F' 40 3 = nI 0 ∧ L' = L ∧ ((tyOK x z.n ∧ r = some (xI (nI (z.n + 1))) ∧ MOK F' L' w (kM (z.n + 1) (upd z.ln z.n x) (z.ne) (z.ef) (z.et) (z.ek) (z.ev) (z.tg) (z.np) (z.sg) (z.oc) (z.ns) (z.pt) (z.iq))) ∨ (¬ tyOK x z.n ∧ r = some (xI (-1)) ∧ MOK F' L' w z))) := by
  have hz1 := hz.cd (nI 0)
  obtain ⟨k1, ⟨l1, l2, l3, l4⟩, k3, k4, k5, k6, k7, k8⟩ := id hz1
  refine Con.ofK (fun post K => ?_)
  refine Con.of (ls := [(0, xR 40), (1, xI x)]) (by decide) rfl rfl (Nat.le_of_ble_eq_true rfl) ?_
  intro p e s m args below meth c A X hr hA
  have no : ¬ tyOK x z.n → GX p l e rm_Mo_type s m args below meth c (MQ below (gxQ D vcl ca ks lay ad s.heap.size post) args s 0 0 (gxA ks ad s.heap.size)) 2 A D vcl ca ks lay ad 0 0 26 [(0, xR 40), (1, xI x)] [] (gxu F 40 3 (nI 0)) L := by
    intro h
    refine gx_iconst X d_Mo_type_26 (v := (-1)) (by decide) ?_
    refine gx_iret X hr hA d_Mo_type_27 (K _ _ _ ⟨gxu_at, rfl, Or.inr ⟨h, rfl, hz1⟩⟩)
  refine gx_aload_n X d_Mo_type_0 rfl rfl ?_
  refine gx_iconst X d_Mo_type_1 (v := nI 0) (by decide) ?_
  refine gx_puti X d_Mo_type_2 (gci in_Mo) (HX _ rfl).1 (HX _ rfl).2 rfl 3 (by decide) (gcw X lk_Mo_85) (fun _ h => h) t_Mo ty_Mo nm_Mo rfl (ty_Mo 3 (by decide)) rfl rfl rfl ?_
  refine gx_iload_n X d_Mo_type_5 rfl rfl ?_
  refine gx_bipush X d_Mo_type_6 (v := nI 32) (by decide) ?_
  refine gx_icmp_lt X d_Mo_type_8 (tgt := 26) (by decide) (fun h8 => ?_) (fun h8 => ?_)
  · exact no (fun q => absurd q.1 (Int32.not_le.mpr h8))
  · refine gx_iload_n X d_Mo_type_11 rfl rfl ?_
    refine gx_bipush X d_Mo_type_12 (v := nI 126) (by decide) ?_
    refine gx_icmp_gt X d_Mo_type_14 (tgt := 26) (by decide) (fun h14 => ?_) (fun h14 => ?_)
    · exact no (fun q => absurd q.2.1 (Int32.not_le.mpr h14))
    · refine gx_aload_n X d_Mo_type_17 rfl rfl ?_
      refine gx_geti X d_Mo_type_18 (gci in_Mo) (HX _ rfl).1 (HX _ rfl).2 rfl 5 (by decide) (gcw X lk_Mo_88) (fun _ h => h) rfl ?_
      refine gx_top l2 ?_
      refine gx_bipush X d_Mo_type_21 (v := nI 24) (by decide) ?_
      refine gx_icmp_ne X d_Mo_type_23 (tgt := 28) (by decide) (fun h23 => ?_) (fun h23 => ?_)
      · have hlt : z.n < 24 := by
          have : ¬ z.n = 24 := fun q => h23 (by rw [q])
          omega
        have hty : tyOK x z.n := ⟨Int32.not_lt.mp h8, Int32.not_lt.mp h14, hlt⟩
        refine gx_aload_n X d_Mo_type_28 rfl rfl ?_
        refine gx_getr X d_Mo_type_29 (gci in_Mo) (HX _ rfl).1 (HX _ rfl).2 rfl 4 (by decide) (gcw X lk_Mo_7) (fun _ h => h) rfl ?_
        refine gx_aload_n X d_Mo_type_32 rfl rfl ?_
        refine gx_geti X d_Mo_type_33 (gci in_Mo) (HX _ rfl).1 (HX _ rfl).2 rfl 5 (by decide) (gcw X lk_Mo_88) (fun _ h => h) rfl ?_
        refine gx_top l2 ?_
        refine gx_iload_n X d_Mo_type_36 rfl rfl ?_
        refine gx_iast X d_Mo_type_37 (HX _ rfl).1 (HX _ rfl).2 rfl (by omega) (by omega) ?_
        refine gx_aload_n X d_Mo_type_38 rfl rfl ?_
        refine gx_dup X d_Mo_type_39 rfl ?_
        refine gx_geti X d_Mo_type_40 (gci in_Mo) (HX _ rfl).1 (HX _ rfl).2 rfl 5 (by decide) (gcw X lk_Mo_88) (fun _ h => h) rfl ?_
        refine gx_top (y := nI z.n) (by rw [gxu_cell (by decide)]; exact l2) ?_
        refine gx_iconst X d_Mo_type_43 (v := nI 1) (by decide) ?_
        refine gx_iadd X d_Mo_type_44 ?_
        refine gx_top (nI_add z.n 1) ?_
        refine gx_puti X d_Mo_type_45 (gci in_Mo) (HX _ rfl).1 (HX _ rfl).2 rfl 5 (by decide) (gcw X lk_Mo_88) (fun _ h => h) t_Mo ty_Mo nm_Mo rfl (ty_Mo 5 (by decide)) rfl rfl rfl ?_
        refine gx_aload_n X d_Mo_type_48 rfl rfl ?_
        refine gx_geti X d_Mo_type_49 (gci in_Mo) (HX _ rfl).1 (HX _ rfl).2 rfl 5 (by decide) (gcw X lk_Mo_88) (fun _ h => h) rfl ?_
        refine gx_top (y := nI (z.n + 1)) gxu_at ?_
        have m : MlV (gxu (gxu (gxu F 40 3 (nI 0)) 41 z.n x) 40 5 (nI (z.n + 1))) (z.n + 1) (upd z.ln z.n x) := by
          refine ⟨by omega, gxu_at, by rw [gxu_cell (by decide), gxu_in, l3], fun i hi => ?_⟩
          by_cases ei : i = z.n
          · subst ei
            obtain ⟨ch, a1, a2, a3⟩ := tyOK_nI hty
            exact ⟨ch, a1, a2, by rw [upd_at, a3]⟩
          · obtain ⟨ch, a1, a2, a3⟩ := l4 i (by omega)
            exact ⟨ch, a1, a2, by rw [upd_ne ei, a3]⟩
        generalize hG : gxu (gxu (gxu F 40 3 (nI 0)) 41 z.n x) 40 5 (nI (z.n + 1)) = G at *
        have e1 : ∀ a, a ≠ 40 → a ≠ 41 → G a = gxu F 40 3 (nI 0) a := fun a b1 b2 => by rw [← hG, gxu_cell b1, gxu_cell b2]
        have e2 : ∀ j, j ≠ 5 → G 40 j = gxu F 40 3 (nI 0) 40 j := fun j b1 => by rw [← hG, gxu_ne (fun q => b1 q.2), gxu_cell (by decide)]
        refine gx_iret X hr hA d_Mo_type_52 (K _ _ _ ⟨by rw [e2 3 (by decide), gxu_at], rfl, Or.inl ⟨hty, rfl, k1.of (fun j hj => e2 j (by omega)), m, k3.of (e2 6 (by decide)) (fun a ha => e1 a (by omega) (by omega)) rfl, k4.of (e2 12 (by decide)) (e1 48 (by decide) (by decide)) rfl, k5.of (e2 16 (by decide)) (fun a ha => e1 a (by omega) (by omega)), k6.of (e2 21 (by decide)) (e1 53 (by decide) (by decide)), k7.of (e2 23 (by decide)) (e1 54 (by decide) (by decide)), (e2 15 (by decide)).trans k8⟩⟩)
      · exact no (fun q => by
          have := (nI_eq (a := z.n) (b := 24) (by omega) (by decide)).mp h23
          have := q.2.2
          omega)
/-- a line shorter, or longer: all else stands -/
theorem MOK.put {G : Nat → Nat → Int32} (hz : MOK F L w z) (e1 : ∀ a, a ≠ 40 → G a = F a) (e2 : ∀ j, j ≠ 3 → j ≠ 5 → G 40 j = F 40 j) (e3 : G 40 5 = nI 0) : MOK G L w z.wip := by
  obtain ⟨k1, ⟨l1, l2, l3, l4⟩, k3, k4, k5, k6, k7, k8⟩ := hz
  exact ⟨k1.of (fun j hj => e2 j (by omega) (by omega)), ⟨Nat.zero_le _, e3, (e1 41 (by decide)).trans l3, fun i hi => absurd hi (Nat.not_lt_zero i)⟩, k3.of (e2 6 (by decide) (by decide)) (fun a ha => e1 a (by omega)) rfl, k4.of (e2 12 (by decide) (by decide)) (e1 48 (by decide)) rfl, k5.of (e2 16 (by decide) (by decide)) (fun a ha => e1 a (by omega)), k6.of (e2 21 (by decide) (by decide)) (e1 53 (by decide)), k7.of (e2 23 (by decide) (by decide)) (e1 54 (by decide)), (e2 15 (by decide) (by decide)).trans k8⟩
theorem m_wipe (HX : gH ks lay N sM) (hz : MOK F L w z) : Con l y_Mo_wipe (Cond.code y_Mo_wipe b_Mo_wipe 1 none :: WT) rm_Mo_wipe D vcl ca ks lay ad [xR 40] F L (fun r F' L' => r = none ∧ L' = L ∧ MOK F' L' w z.wip) := by
  refine Con.ofK (fun post K => ?_)
  refine Con.of (ls := [(0, xR 40)]) (by decide) rfl rfl (Nat.le_of_ble_eq_true rfl) ?_
  intro p e s m args below meth c A X hr hA
  refine gx_aload_n X d_Mo_wipe_0 rfl rfl ?_
  refine gx_iconst X d_Mo_wipe_1 (v := nI 0) (by decide) ?_
  refine gx_puti X d_Mo_wipe_2 (gci in_Mo) (HX _ rfl).1 (HX _ rfl).2 rfl 3 (by decide) (gcw X lk_Mo_85) (fun _ h => h) t_Mo ty_Mo nm_Mo rfl (ty_Mo 3 (by decide)) rfl rfl rfl ?_
  refine gx_aload_n X d_Mo_wipe_5 rfl rfl ?_
  refine gx_iconst X d_Mo_wipe_6 (v := nI 0) (by decide) ?_
  refine gx_puti X d_Mo_wipe_7 (gci in_Mo) (HX _ rfl).1 (HX _ rfl).2 rfl 5 (by decide) (gcw X lk_Mo_88) (fun _ h => h) t_Mo ty_Mo nm_Mo rfl (ty_Mo 5 (by decide)) rfl rfl rfl ?_
  refine gx_vret X hr hA d_Mo_wipe_10 (K _ _ _ ⟨rfl, rfl, hz.put (fun a b1 => by rw [gxu_cell b1, gxu_cell b1]) (fun j b1 b2 => by rw [gxu_ne (fun q => b2 q.2), gxu_ne (fun q => b1 q.2)]) gxu_at⟩)
theorem m_outcome (HX : gH ks lay N sM) (hz : MOK F L w z) : Con l y_Mo_outcome (Cond.code y_Mo_outcome b_Mo_outcome 1 (some .int) :: WT) rm_Mo_outcome D vcl ca ks lay ad [xR 40] F L (fun r F' L' => r = some (xI z.oc) ∧ L' = L ∧ MOK F' L' w z) := by
  refine Con.ofK (fun post K => ?_)
  refine Con.of (ls := [(0, xR 40)]) (by decide) rfl rfl (Nat.le_of_ble_eq_true rfl) ?_
  intro p e s m args below meth c A X hr hA
  refine gx_aload_n X d_Mo_outcome_0 rfl rfl ?_
  refine gx_iconst X d_Mo_outcome_1 (v := nI 0) (by decide) ?_
  refine gx_puti X d_Mo_outcome_2 (gci in_Mo) (HX _ rfl).1 (HX _ rfl).2 rfl 3 (by decide) (gcw X lk_Mo_85) (fun _ h => h) t_Mo ty_Mo nm_Mo rfl (ty_Mo 3 (by decide)) rfl rfl rfl ?_
  refine gx_aload_n X d_Mo_outcome_5 rfl rfl ?_
  refine gx_geti X d_Mo_outcome_6 (gci in_Mo) (HX _ rfl).1 (HX _ rfl).2 rfl 15 (by decide) (gcw X lk_Mo_35) (fun _ h => h) rfl ?_
  refine gx_top (y := z.oc) (by rw [gxu_ne (by decide)]; exact hz.2.2.2.2.2.2.2) ?_
  refine gx_iret X hr hA d_Mo_outcome_9 (K _ _ _ ⟨rfl, rfl, hz.cd _⟩)
theorem m_edges (HX : gH ks lay N sM) (hz : MOK F L w z) : Con l y_Mo_edges (Cond.code y_Mo_edges b_Mo_edges 1 (some .int) :: WT) rm_Mo_edges D vcl ca ks lay ad [xR 40] F L (fun r F' L' => r = some (xI (nI z.ne)) ∧ L' = L ∧ MOK F' L' w z) := by
  refine Con.ofK (fun post K => ?_)
  refine Con.of (ls := [(0, xR 40)]) (by decide) rfl rfl (Nat.le_of_ble_eq_true rfl) ?_
  intro p e s m args below meth c A X hr hA
  refine gx_aload_n X d_Mo_edges_0 rfl rfl ?_
  refine gx_iconst X d_Mo_edges_1 (v := nI 0) (by decide) ?_
  refine gx_puti X d_Mo_edges_2 (gci in_Mo) (HX _ rfl).1 (HX _ rfl).2 rfl 3 (by decide) (gcw X lk_Mo_85) (fun _ h => h) t_Mo ty_Mo nm_Mo rfl (ty_Mo 3 (by decide)) rfl rfl rfl ?_
  refine gx_aload_n X d_Mo_edges_5 rfl rfl ?_
  refine gx_geti X d_Mo_edges_6 (gci in_Mo) (HX _ rfl).1 (HX _ rfl).2 rfl 6 (by decide) (gcw X lk_Mo_138) (fun _ h => h) rfl ?_
  refine gx_top (y := nI z.ne) (by rw [gxu_ne (by decide)]; exact hz.2.2.1.2.1) ?_
  refine gx_iret X hr hA d_Mo_edges_9 (K _ _ _ ⟨rfl, rfl, hz.cd _⟩)
theorem m_predicates (HX : gH ks lay N sM) (hz : MOK F L w z) : Con l y_Mo_predicates (Cond.code y_Mo_predicates b_Mo_predicates 1 (some .int) :: WT) rm_Mo_predicates D vcl ca ks lay ad [xR 40] F L (fun r F' L' => r = some (xI (nI z.np)) ∧ L' = L ∧ MOK F' L' w z) := by
  refine Con.ofK (fun post K => ?_)
  refine Con.of (ls := [(0, xR 40)]) (by decide) rfl rfl (Nat.le_of_ble_eq_true rfl) ?_
  intro p e s m args below meth c A X hr hA
  refine gx_aload_n X d_Mo_predicates_0 rfl rfl ?_
  refine gx_iconst X d_Mo_predicates_1 (v := nI 0) (by decide) ?_
  refine gx_puti X d_Mo_predicates_2 (gci in_Mo) (HX _ rfl).1 (HX _ rfl).2 rfl 3 (by decide) (gcw X lk_Mo_85) (fun _ h => h) t_Mo ty_Mo nm_Mo rfl (ty_Mo 3 (by decide)) rfl rfl rfl ?_
  refine gx_aload_n X d_Mo_predicates_5 rfl rfl ?_
  refine gx_geti X d_Mo_predicates_6 (gci in_Mo) (HX _ rfl).1 (HX _ rfl).2 rfl 12 (by decide) (gcw X lk_Mo_155) (fun _ h => h) rfl ?_
  refine gx_top (y := nI z.np) (by rw [gxu_ne (by decide)]; exact hz.2.2.2.1.2.1) ?_
  refine gx_iret X hr hA d_Mo_predicates_9 (K _ _ _ ⟨rfl, rfl, hz.cd _⟩)
theorem m_nodes (HX : gH ks lay N sM) (hz : MOK F L w z) : Con l y_Mo_nodes (Cond.code y_Mo_nodes b_Mo_nodes 1 (some .int) :: WT) rm_Mo_nodes D vcl ca ks lay ad [xR 40] F L (fun r F' L' => r = some (xI (nI z.ns.length)) ∧ L' = L ∧ MOK F' L' w z) := by
  refine Con.ofK (fun post K => ?_)
  refine Con.of (ls := [(0, xR 40)]) (by decide) rfl rfl (Nat.le_of_ble_eq_true rfl) ?_
  intro p e s m args below meth c A X hr hA
  refine gx_aload_n X d_Mo_nodes_0 rfl rfl ?_
  refine gx_iconst X d_Mo_nodes_1 (v := nI 0) (by decide) ?_
  refine gx_puti X d_Mo_nodes_2 (gci in_Mo) (HX _ rfl).1 (HX _ rfl).2 rfl 3 (by decide) (gcw X lk_Mo_85) (fun _ h => h) t_Mo ty_Mo nm_Mo rfl (ty_Mo 3 (by decide)) rfl rfl rfl ?_
  refine gx_aload_n X d_Mo_nodes_5 rfl rfl ?_
  refine gx_geti X d_Mo_nodes_6 (gci in_Mo) (HX _ rfl).1 (HX _ rfl).2 rfl 16 (by decide) (gcw X lk_Mo_123) (fun _ h => h) rfl ?_
  refine gx_top (y := nI z.ns.length) (by rw [gxu_ne (by decide)]; exact hz.2.2.2.2.1.2.1) ?_
  refine gx_iret X hr hA d_Mo_nodes_9 (K _ _ _ ⟨rfl, rfl, hz.cd _⟩)
theorem MpV.len {o : Option (List Nat)} (h : MpV F o) : F 40 21 = ptL o := by
  cases o with
  | none => exact h
  | some es => exact h.2.1
theorem m_length (HX : gH ks lay N sM) (hz : MOK F L w z) : Con l y_Mo_length (Cond.code y_Mo_length b_Mo_length 1 (some .int) :: WT) rm_Mo_length D vcl ca ks lay ad [xR 40] F L (fun r F' L' => r = some (xI (ptL z.pt)) ∧ L' = L ∧ MOK F' L' w z) := by
  refine Con.ofK (fun post K => ?_)
  refine Con.of (ls := [(0, xR 40)]) (by decide) rfl rfl (Nat.le_of_ble_eq_true rfl) ?_
  intro p e s m args below meth c A X hr hA
  refine gx_aload_n X d_Mo_length_0 rfl rfl ?_
  refine gx_iconst X d_Mo_length_1 (v := nI 0) (by decide) ?_
  refine gx_puti X d_Mo_length_2 (gci in_Mo) (HX _ rfl).1 (HX _ rfl).2 rfl 3 (by decide) (gcw X lk_Mo_85) (fun _ h => h) t_Mo ty_Mo nm_Mo rfl (ty_Mo 3 (by decide)) rfl rfl rfl ?_
  refine gx_aload_n X d_Mo_length_5 rfl rfl ?_
  refine gx_geti X d_Mo_length_6 (gci in_Mo) (HX _ rfl).1 (HX _ rfl).2 rfl 21 (by decide) (gcw X lk_Mo_51) (fun _ h => h) rfl ?_
  refine gx_top (y := ptL z.pt) (by rw [gxu_ne (by decide)]; exact hz.2.2.2.2.2.1.len) ?_
  refine gx_iret X hr hA d_Mo_length_9 (K _ _ _ ⟨rfl, rfl, hz.cd _⟩)
set_option maxHeartbeats 4000000 in
theorem m_clear (HX : gH ks lay N sM) (hz : MOK F L w z) : Con l y_Mo_clear (Cond.code y_Mo_clear b_Mo_clear 2 none :: WT) rm_Mo_clear D vcl ca ks lay ad [xR 40] F L (fun r F' L' => r = none ∧ L' = L ∧ MOK F' L' w z.clr.fgt) := by
  have hN := pu_N w (by have := hz.1.1; omega)
  obtain ⟨k1, ⟨l1, l2, l3, l4⟩, k3, k4, k5, k6, k7, k8⟩ := id hz
  refine Con.ofK (fun post K => ?_)
  refine Con.of (ls := [(0, xR 40)]) (by decide) rfl rfl (Nat.le_of_ble_eq_true rfl) ?_
  intro p e s m args below meth c A X hr hA
  refine gx_aload_n X d_Mo_clear_0 rfl rfl ?_
  refine gx_iconst X d_Mo_clear_1 (v := nI 0) (by decide) ?_
  refine gx_puti X d_Mo_clear_2 (gci in_Mo) (HX _ rfl).1 (HX _ rfl).2 rfl 3 (by decide) (gcw X lk_Mo_85) (fun _ h => h) t_Mo ty_Mo nm_Mo rfl (ty_Mo 3 (by decide)) rfl rfl rfl ?_
  refine gx_aload_n X d_Mo_clear_5 rfl rfl ?_
  refine gx_iconst X d_Mo_clear_6 (v := nI 0) (by decide) ?_
  refine gx_puti X d_Mo_clear_7 (gci in_Mo) (HX _ rfl).1 (HX _ rfl).2 rfl 5 (by decide) (gcw X lk_Mo_88) (fun _ h => h) t_Mo ty_Mo nm_Mo rfl (ty_Mo 5 (by decide)) rfl rfl rfl ?_
  refine gx_aload_n X d_Mo_clear_10 rfl rfl ?_
  refine gx_iconst X d_Mo_clear_11 (v := nI 0) (by decide) ?_
  refine gx_puti X d_Mo_clear_12 (gci in_Mo) (HX _ rfl).1 (HX _ rfl).2 rfl 6 (by decide) (gcw X lk_Mo_138) (fun _ h => h) t_Mo ty_Mo nm_Mo rfl (ty_Mo 6 (by decide)) rfl rfl rfl ?_
  refine gx_aload_n X d_Mo_clear_15 rfl rfl ?_
  refine gx_iconst X d_Mo_clear_16 (v := nI 0) (by decide) ?_
  refine gx_puti X d_Mo_clear_17 (gci in_Mo) (HX _ rfl).1 (HX _ rfl).2 rfl 12 (by decide) (gcw X lk_Mo_155) (fun _ h => h) t_Mo ty_Mo nm_Mo rfl (ty_Mo 12 (by decide)) rfl rfl rfl ?_
  refine gx_iconst X d_Mo_clear_20 (v := nI 0) (by decide) ?_
  refine gx_istore_n X d_Mo_clear_21 rfl (by decide) ?_
  generalize hG : gxu (gxu (gxu (gxu F 40 3 (nI 0)) 40 5 (nI 0)) 40 6 (nI 0)) 40 12 (nI 0) = G0
  have e1 : ∀ a, a ≠ 40 → G0 a = F a := fun a b1 => by rw [← hG, gxu_cell b1, gxu_cell b1, gxu_cell b1, gxu_cell b1]
  have e2 : ∀ j, j ≠ 3 → j ≠ 5 → j ≠ 6 → j ≠ 12 → G0 40 j = F 40 j := fun j b1 b2 b3 b4 => by rw [← hG, gxu_ne (fun q => b4 q.2), gxu_ne (fun q => b3 q.2), gxu_ne (fun q => b2 q.2), gxu_ne (fun q => b1 q.2)]
  have e5 : G0 40 5 = nI 0 := by rw [← hG, gxu_ne (by decide), gxu_ne (by decide), gxu_at]
  have e6 : G0 40 6 = nI 0 := by rw [← hG, gxu_ne (by decide), gxu_at]
  have e12 : G0 40 12 = nI 0 := by rw [← hG, gxu_at]
  have loop : ∀ (d i : Nat) (G : Nat → Nat → Int32), i + d = 512 → (∀ a, a ≠ 48 → G a = G0 a) → (∀ q, q < i → G 48 q = nI 0) → GX p l e rm_Mo_clear s m args below meth c (MQ below (gxQ D vcl ca ks lay ad s.heap.size post) args s 0 0 (gxA ks ad s.heap.size)) 2 A D vcl ca ks lay ad 0 0 22 [(1, xI (nI i)), (0, xR 40)] [] G L := by
    intro d
    induction d with
    | zero =>
      intro i G hd f1 f2
      refine gx_iload_n X d_Mo_clear_22 rfl rfl ?_
      refine gx_sipush X d_Mo_clear_23 (v := nI 512) (by decide) ?_
      refine gx_icmp_ge X d_Mo_clear_26 (tgt := 42) (by decide) (fun h26 => ?_) (fun h26 => ?_)
      · refine gx_aload_n X d_Mo_clear_42 rfl rfl ?_
        refine gx_callV X d_Mo_clear_43 mf_Mo_forget lk_Mo_145 (c_Mo_forget HX) (HX _ rfl).1 (HX _ rfl).2 rfl rfl rfl (Nat.le_of_ble_eq_true rfl) ⟨by decide, by decide⟩ ⟨rfl, rfl⟩ ⟨Nat.zero_le _, Nat.zero_le _⟩ (fun r43 F43 L43 hp43 => ?_)
        obtain ⟨rfl, hF, rfl⟩ := hp43
        have g1 : ∀ a, a ≠ 40 → a ≠ 48 → F43 a = F a := fun a b1 b2 => by rw [hF, gxu_cell b1, gxu_cell b1, gxu_cell b1, gxu_cell b1, f1 a b2, e1 a b1]
        have g2 : ∀ j, j ≠ 15 → j ≠ 16 → j ≠ 21 → j ≠ 23 → F43 40 j = G0 40 j := fun j b1 b2 b3 b4 => by rw [hF, gxu_ne (fun q => b4 q.2), gxu_ne (fun q => b3 q.2), gxu_ne (fun q => b2 q.2), gxu_ne (fun q => b1 q.2), f1 40 (by decide)]
        have g3 : ∀ q, q < 512 → F43 48 q = nI 0 := fun q hq => by rw [hF, gxu_cell (by decide), gxu_cell (by decide), gxu_cell (by decide), gxu_cell (by decide)]; exact f2 q (by omega)
        refine gx_vret X hr hA d_Mo_clear_46 (K _ _ _ ⟨rfl, rfl, k1.of (fun j hj => (g2 j (by omega) (by omega) (by omega) (by omega)).trans (e2 j (by omega) (by omega) (by omega) (by omega))), ⟨Nat.zero_le _, (g2 5 (by decide) (by decide) (by decide) (by decide)).trans e5, (g1 41 (by decide) (by decide)).trans l3, fun i hi => absurd hi (Nat.not_lt_zero i)⟩, ⟨Nat.zero_le _, (g2 6 (by decide) (by decide) (by decide) (by decide)).trans e6, fun e he => absurd he (Nat.not_lt_zero e)⟩, ⟨Nat.zero_le _, (g2 12 (by decide) (by decide) (by decide) (by decide)).trans e12, fun s hs => ⟨g3 s (by omega), Nat.two_pow_pos _, fun k hk => absurd hk (Nat.not_lt_zero k)⟩⟩, ⟨Nat.zero_le _, by rw [hF, gxu_ne (by decide), gxu_ne (by decide), gxu_at]; rfl, fun k hk => absurd hk (Nat.not_lt_zero k)⟩, by show F43 40 21 = -1; rw [hF, gxu_ne (by decide), gxu_at], ⟨Nat.zero_le _, by rw [hF, gxu_at]; rfl, fun i hi => absurd hi (Nat.not_lt_zero i)⟩, by show F43 40 15 = -1; rw [hF, gxu_ne (by decide), gxu_ne (by decide), gxu_ne (by decide), gxu_at]⟩)
      · exact absurd ((nI_leI (by decide) (by omega)).mpr (by omega)) h26
    | succ d ih =>
      intro i G hd f1 f2
      refine gx_iload_n X d_Mo_clear_22 rfl rfl ?_
      refine gx_sipush X d_Mo_clear_23 (v := nI 512) (by decide) ?_
      refine gx_icmp_ge X d_Mo_clear_26 (tgt := 42) (by decide) (fun h26 => ?_) (fun h26 => ?_)
      · exact absurd ((nI_leI (by decide) (by omega)).mp h26) (by omega)
      · refine gx_aload_n X d_Mo_clear_29 rfl rfl ?_
        refine gx_getr X d_Mo_clear_30 (gci in_Mo) (HX _ rfl).1 (HX _ rfl).2 rfl 14 (by decide) (gcw X lk_Mo_32) (fun _ h => h) rfl ?_
        refine gx_iload_n X d_Mo_clear_33 rfl rfl ?_
        refine gx_iconst X d_Mo_clear_34 (v := nI 0) (by decide) ?_
        refine gx_iast X d_Mo_clear_35 (HX _ rfl).1 (HX _ rfl).2 rfl (by omega) (by omega) ?_
        refine gx_iinc X d_Mo_clear_36 rfl (pu_inc _) ?_
        refine gx_goto X d_Mo_clear_39 (tgt := 22) (by decide) ?_
        refine gx_el (ih (i + 1) _ (by omega) (fun a b1 => by rw [gxu_cell b1]; exact f1 a b1) (fun q hq => ?_)) ⟨rfl, rfl, trivial⟩
        by_cases e4 : q = i
        · rw [e4, gxu_at]
        · rw [gxu_ne (fun z => e4 z.2)]; exact f2 q (by omega)
  exact gx_el (loop 512 0 G0 (by omega) (fun _ _ => rfl) (fun q hq => absurd hq (Nat.not_lt_zero q))) ⟨rfl, rfl, trivial⟩
end
