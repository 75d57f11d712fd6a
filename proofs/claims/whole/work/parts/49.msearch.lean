/-! the reference's search (own text) -/
section
variable {l : Launch} {D : va_G} {ca : Nat → ClassId} {ks : List Nat} {lay : Nat → gxE} {ad : Nat → Nat} {F : Nat → Nat → Int32} {L : Nat → Nat → Int64} {N w ne np : Nat} {ef et ek ev : Nat → Nat} {tg : Nat → Nat → Option Nat} {sg : Nat → Nat} {ns : List nd}
theorem c_Mo_forget (HX : gH ks lay N sM) : Con l y_Mo_forget (Cond.code y_Mo_forget b_Mo_forget 1 none :: WT) rm_Mo_forget D vcl ca ks lay ad [xR 40] F L (fun r F' L' => r = none ∧ F' = gxu (gxu (gxu (gxu F 40 15 (-1)) 40 16 (nI 0)) 40 21 (-1)) 40 23 (nI 0) ∧ L' = L) := by
  refine Con.ofK (fun post K => ?_)
  refine Con.of (ls := [(0, xR 40)]) (by decide) rfl rfl (Nat.le_of_ble_eq_true rfl) ?_
  intro p e s m args below meth c A X hr hA
  refine gx_aload_n X d_Mo_forget_0 rfl rfl ?_
  refine gx_iconst X d_Mo_forget_1 (v := (-1)) (by decide) ?_
  refine gx_puti X d_Mo_forget_2 (gci in_Mo) (HX _ rfl).1 (HX _ rfl).2 rfl 15 (by decide) (gcw X lk_Mo_35) (fun _ h => h) t_Mo ty_Mo nm_Mo rfl (ty_Mo 15 (by decide)) rfl rfl rfl ?_
  refine gx_aload_n X d_Mo_forget_5 rfl rfl ?_
  refine gx_iconst X d_Mo_forget_6 (v := nI 0) (by decide) ?_
  refine gx_puti X d_Mo_forget_7 (gci in_Mo) (HX _ rfl).1 (HX _ rfl).2 rfl 16 (by decide) (gcw X lk_Mo_123) (fun _ h => h) t_Mo ty_Mo nm_Mo rfl (ty_Mo 16 (by decide)) rfl rfl rfl ?_
  refine gx_aload_n X d_Mo_forget_10 rfl rfl ?_
  refine gx_iconst X d_Mo_forget_11 (v := (-1)) (by decide) ?_
  refine gx_puti X d_Mo_forget_12 (gci in_Mo) (HX _ rfl).1 (HX _ rfl).2 rfl 21 (by decide) (gcw X lk_Mo_51) (fun _ h => h) t_Mo ty_Mo nm_Mo rfl (ty_Mo 21 (by decide)) rfl rfl rfl ?_
  refine gx_aload_n X d_Mo_forget_15 rfl rfl ?_
  refine gx_iconst X d_Mo_forget_16 (v := nI 0) (by decide) ?_
  refine gx_puti X d_Mo_forget_17 (gci in_Mo) (HX _ rfl).1 (HX _ rfl).2 rfl 23 (by decide) (gcw X lk_Mo_126) (fun _ h => h) t_Mo ty_Mo nm_Mo rfl (ty_Mo 23 (by decide)) rfl rfl rfl ?_
  refine gx_vret X hr hA d_Mo_forget_20 (K _ _ _ ⟨rfl, rfl, rfl⟩)
theorem MsOK.of {G : Nat → Nat → Int32} (h : MsOK F w) (e : ∀ j, j < 3 → G 40 j = F 40 j) : MsOK G w := by
  unfold MsOK
  rw [e 0 (by decide), e 1 (by decide), e 2 (by decide)]
  exact h
/-- the reference's path -/
def MpV (F : Nat → Nat → Int32) (o : Option (List Nat)) : Prop := match o with
  | none => F 40 21 = -1
  | some es => es.length ≤ 199 ∧ F 40 21 = nI es.length ∧ ∀ i, i < es.length → F 53 i = nI (es.getD i 0)
/-- what stands behind a search -/
def SrQ (F F' : Nat → Nat → Int32) (N np : Nat) (sg : Nat → Nat) (ne : Nat) (z : List nd × Nat) : Prop := (∀ a, a ≠ 40 → ¬ (49 ≤ a ∧ a ≤ 53) → a ≠ 55 → F' a = F a) ∧ (∀ j, j ≠ 15 → j ≠ 16 → j ≠ 21 → j ≠ 23 → F' 40 j = F 40 j) ∧ F' 40 23 = nI 0 ∧ MrV F' z.1 ∧ NsOK N np sg ne z.1 ∧ z.2 ≤ 2 ∧ (z.2 = 0 → F' 40 15 = nI 1 ∧ MpV F' none) ∧ (z.2 = 1 → F' 40 15 = nI 3 ∧ MpV F' none) ∧ (z.2 = 2 → F' 40 15 = -1 ∧ MpV F' (some (esQ z.1)))
set_option maxHeartbeats 8000000 in
theorem c_Mo_search (HX : gH ks lay N sM) (hS : MsOK F w) (hE : MeOK F L w ne ef et ek ev tg) (hG : MgOK F L (2 ^ (3 * w)) np sg) : Con l y_Mo_search (Cond.code y_Mo_search b_Mo_search 4 none :: WT) rm_Mo_search D vcl ca ks lay ad [xR 40] F L (fun r F' L' => r = none ∧ L' = L ∧ SrQ F F' (2 ^ (3 * w)) np sg ne (srN (rchB (2 ^ (3 * w)) w ek ev tg sg) (2 ^ np) ne ef et 200 0 [(0, sg 0, 0, 0, 0)])) := by
  have hw : w < 4 := by have := hS.1; omega
  have hN := pu_N w hw
  have hN0 : 0 < 2 ^ (3 * w) := Nat.two_pow_pos _
  have h20 := hE.1
  have hsg0 := hG.lt hN0
  generalize hzz : srN (rchB (2 ^ (3 * w)) w ek ev tg sg) (2 ^ np) ne ef et 200 0 [(0, sg 0, 0, 0, 0)] = zz
  refine Con.ofK (fun post K => ?_)
  refine Con.of (ls := [(0, xR 40)]) (by decide) rfl rfl (Nat.le_of_ble_eq_true rfl) ?_
  intro p e s m args below meth c A X hr hA
  have fin : ∀ (G : Nat → Nat → Int32), (∀ a, a ≠ 40 → ¬ (49 ≤ a ∧ a ≤ 53) → a ≠ 55 → G a = F a) → (∀ j, j ≠ 15 → j ≠ 16 → j ≠ 21 → j ≠ 23 → G 40 j = F 40 j) → G 40 23 = nI 0 → G 40 21 = -1 → MrV G zz.1 → NsOK (2 ^ (3 * w)) np sg ne zz.1 → zz.2 ≤ 2 → G 40 15 = (if zz.2 = 1 then nI 3 else -1) → GX p l e rm_Mo_search s m args below meth c (MQ below (gxQ D vcl ca ks lay ad s.heap.size post) args s 0 0 (gxA ks ad s.heap.size)) 4 A D vcl ca ks lay ad 0 0 106 [(1, xI (cond (decide (zz.2 = 0)) 1 0)), (0, xR 40)] [] G L := by
    intro G f1 f2 f3 f4 f5 f6 f7 f8
    have hcase : zz.2 = 0 ∨ zz.2 = 1 ∨ zz.2 = 2 := by omega
    rcases hcase with hz | hz | hz
    · rw [decide_eq_true hz]
      rw [if_neg (by omega)] at f8
      refine gx_iload_n X d_Mo_search_106 rfl rfl ?_
      refine gx_if_eq X d_Mo_search_107 (tgt := 115) (by decide) (fun h107 => ?_) (fun h107 => ?_)
      · exact absurd h107 (by decide)
      · refine gx_aload_n X d_Mo_search_110 rfl rfl ?_
        refine gx_iconst X d_Mo_search_111 (v := nI 1) (by decide) ?_
        refine gx_puti X d_Mo_search_112 (gci in_Mo) (HX _ rfl).1 (HX _ rfl).2 rfl 15 (by decide) (gcw X lk_Mo_35) (fun _ h => h) t_Mo ty_Mo nm_Mo rfl (ty_Mo 15 (by decide)) rfl rfl rfl ?_
        refine gx_aload_n X d_Mo_search_115 rfl rfl ?_
        refine gx_geti X d_Mo_search_116 (gci in_Mo) (HX _ rfl).1 (HX _ rfl).2 rfl 15 (by decide) (gcw X lk_Mo_35) (fun _ h => h) rfl ?_
        refine gx_top (y := nI 1) gxu_at ?_
        refine gx_iconst X d_Mo_search_119 (v := (-1)) (by decide) ?_
        refine gx_icmp_eq X d_Mo_search_120 (tgt := 124) (by decide) (fun h120 => ?_) (fun h120 => ?_)
        · exact absurd h120 (by decide)
        · refine gx_vret X hr hA d_Mo_search_123 (K _ _ _ ⟨rfl, rfl, fun a b1 b2 b3 => by rw [gxu_cell b1]; exact f1 a b1 b2 b3, fun j b1 b2 b3 b4 => by rw [gxu_ne (fun q => b1 q.2)]; exact f2 j b1 b2 b3 b4, by rw [gxu_ne (by decide)]; exact f3, f5.of (gxu_ne (by decide)) (fun a b1 => gxu_cell (by omega)), f6, f7, fun _ => ⟨gxu_at, by show gxu G 40 15 _ 40 21 = -1; rw [gxu_ne (by decide)]; exact f4⟩, fun q => absurd q (by omega), fun q => absurd q (by omega)⟩)
    · rw [decide_eq_false (by omega)]
      rw [if_pos hz] at f8
      refine gx_iload_n X d_Mo_search_106 rfl rfl ?_
      refine gx_if_eq X d_Mo_search_107 (tgt := 115) (by decide) (fun h107 => ?_) (fun h107 => ?_)
      · refine gx_aload_n X d_Mo_search_115 rfl rfl ?_
        refine gx_geti X d_Mo_search_116 (gci in_Mo) (HX _ rfl).1 (HX _ rfl).2 rfl 15 (by decide) (gcw X lk_Mo_35) (fun _ h => h) rfl ?_
        refine gx_top f8 ?_
        refine gx_iconst X d_Mo_search_119 (v := (-1)) (by decide) ?_
        refine gx_icmp_eq X d_Mo_search_120 (tgt := 124) (by decide) (fun h120 => ?_) (fun h120 => ?_)
        · exact absurd h120 (by decide)
        · refine gx_vret X hr hA d_Mo_search_123 (K _ _ _ ⟨rfl, rfl, f1, f2, f3, f5, f6, f7, fun q => absurd q (by omega), fun _ => ⟨f8, f4⟩, fun q => absurd q (by omega)⟩)
      · exact absurd rfl h107
    · rw [decide_eq_false (by omega)]
      rw [if_neg (by omega)] at f8
      obtain ⟨hl0, hl2, hl3⟩ := id f6
      have hdep := f6.dep (zz.1.length - 1) (by omega)
      generalize hns : zz.1 = ns1 at *
      generalize hdp : (nAt ns1 (ns1.length - 1)).2.2.2.2 = dp at *
      have hflen : (esQ ns1).length = dp := by unfold esQ; rw [pthL_len, hdp]
      have hfull : esQ ns1 = pthL ns1 dp (ns1.length - 1) := by unfold esQ; rw [hdp]
      generalize hes : esQ ns1 = full at *
      have hsubl : nI ns1.length - nI 1 = nI (ns1.length - 1) := pk_sub (by omega)
      have loopB : ∀ (c0 kp : Nat) (suf : List Nat) (G2 : Nat → Nat → Int32), kp < ns1.length → (nAt ns1 kp).2.2.2.2 = c0 → c0 ≤ dp → full = pthL ns1 c0 kp ++ suf → (∀ a, a ≠ 40 → a ≠ 53 → G2 a = G a) → (∀ j, j ≠ 21 → G2 40 j = G 40 j) → G2 40 21 = nI dp → (∀ i, c0 ≤ i → i < dp → G2 53 i = nI (full.getD i 0)) → GX p l e rm_Mo_search s m args below meth c (MQ below (gxQ D vcl ca ks lay ad s.heap.size post) args s 0 0 (gxA ks ad s.heap.size)) 4 A D vcl ca ks lay ad 0 0 162 [(3, xI (nI kp)), (2, xI (nI c0)), (0, xR 40)] [] G2 L := by
        intro c0
        induction c0 with
        | zero =>
          intro kp suf G2 g1 g2 g3 g4 g5 g6 g7 g8
          have hk0 : kp = 0 := by
            rcases Nat.eq_zero_or_pos kp with q | q
            · exact q
            · obtain ⟨-, -, d3⟩ := (hl3 kp g1).2.2.2 q
              omega
          subst hk0
          refine gx_iload_n X d_Mo_search_162 rfl rfl ?_
          refine gx_if_le X d_Mo_search_163 (tgt := 191) (by decide) (fun h163 => ?_) (fun h163 => ?_)
          · refine gx_vret X hr hA d_Mo_search_191 (K _ _ _ ⟨rfl, rfl, fun a b1 b2 b3 => by rw [g5 a b1 (by omega)]; exact f1 a b1 b2 b3, fun j b1 b2 b3 b4 => by rw [g6 j b3]; exact f2 j b1 b2 b3 b4, by rw [g6 23 (by decide)]; exact f3, by rw [hns]; exact f5.of (g6 16 (by decide)) (fun a b1 => g5 a (by omega) (by omega)), by rw [hns]; exact f6, f7, fun q => absurd q (by omega), fun q => absurd q (by omega), fun _ => ⟨by rw [g6 15 (by decide)]; exact f8, ?_⟩⟩)
            rw [hns, hes]
            exact ⟨by omega, by rw [hflen]; exact g7, fun i hi => g8 i (Nat.zero_le _) (by omega)⟩
          · exact absurd (show nI 0 ≤ 0 by decide) h163
        | succ c0 ih =>
          intro kp suf G2 g1 g2 g3 g4 g5 g6 g7 g8
          have hk0 : kp ≠ 0 := fun z => by
            have := (hl3 kp g1).2.2.1 z
            omega
          obtain ⟨d1, d2, d3⟩ := (hl3 kp g1).2.2.2 (by omega)
          obtain ⟨-, -, t3, t4⟩ := f5.2.2 kp g1
          rw [if_neg hk0] at t3 t4
          have hp : pthL ns1 (c0 + 1) kp = pthL ns1 c0 (nAt ns1 kp).2.2.1 ++ [(nAt ns1 kp).2.2.2.1] := rfl
          have hget : full.getD c0 0 = (nAt ns1 kp).2.2.2.1 := by
            rw [g4, hp, List.append_assoc, List.getD_eq_getElem?_getD, List.getElem?_append_right (by rw [pthL_len]; omega), pthL_len, Nat.sub_self]
            rfl
          refine gx_iload_n X d_Mo_search_162 rfl rfl ?_
          refine gx_if_le X d_Mo_search_163 (tgt := 191) (by decide) (fun h163 => ?_) (fun h163 => ?_)
          · exact absurd ((nI_leI (a := kp) (b := 0) (by omega) (by decide)).mp h163) (by omega)
          · refine gx_iinc X d_Mo_search_166 rfl (pu_dec _) ?_
            refine gx_aload_n X d_Mo_search_169 rfl rfl ?_
            refine gx_getr X d_Mo_search_170 (gci in_Mo) (HX _ rfl).1 (HX _ rfl).2 rfl 22 (by decide) (gcw X lk_Mo_54) (fun _ h => h) rfl ?_
            refine gx_iload_n X d_Mo_search_173 rfl rfl ?_
            refine gx_aload_n X d_Mo_search_174 rfl rfl ?_
            refine gx_getr X d_Mo_search_175 (gci in_Mo) (HX _ rfl).1 (HX _ rfl).2 rfl 20 (by decide) (gcw X lk_Mo_48) (fun _ h => h) rfl ?_
            refine gx_iload_n X d_Mo_search_178 rfl rfl ?_
            refine gx_iald X d_Mo_search_179 (HX _ rfl).1 (HX _ rfl).2 rfl (by omega) (by omega) ?_
            refine gx_top (y := nI (nAt ns1 kp).2.2.2.1) (by rw [g5 52 (by decide) (by decide)]; exact t4) ?_
            refine gx_iast X d_Mo_search_180 (HX _ rfl).1 (HX _ rfl).2 rfl (by omega) (by omega) ?_
            refine gx_aload_n X d_Mo_search_181 rfl rfl ?_
            refine gx_getr X d_Mo_search_182 (gci in_Mo) (HX _ rfl).1 (HX _ rfl).2 rfl 19 (by decide) (gcw X lk_Mo_45) (fun _ h => h) rfl ?_
            refine gx_iload_n X d_Mo_search_185 rfl rfl ?_
            refine gx_iald X d_Mo_search_186 (HX _ rfl).1 (HX _ rfl).2 rfl (by omega) (by omega) ?_
            refine gx_top (y := nI (nAt ns1 kp).2.2.1) (by rw [gxu_cell (by decide), g5 51 (by decide) (by decide)]; exact t3) ?_
            refine gx_istore_n X d_Mo_search_187 rfl (by decide) ?_
            refine gx_goto X d_Mo_search_188 (tgt := 162) (by decide) ?_
            refine gx_el (ih (nAt ns1 kp).2.2.1 ((nAt ns1 kp).2.2.2.1 :: suf) _ (by omega) (by omega) (by omega) (by rw [g4, hp]; simp) (fun a a1 a2 => by rw [gxu_cell a2]; exact g5 a a1 a2) (fun j b1 => by rw [gxu_cell (by decide)]; exact g6 j b1) (by rw [gxu_cell (by decide)]; exact g7) (fun i hi1 hi2 => ?_)) ⟨rfl, rfl, rfl, trivial⟩
            by_cases e : i = c0
            · rw [e, gxu_at, hget]
            · rw [gxu_ne (fun z => e z.2), g8 i (by omega) hi2]
      have loopA : ∀ (d kp c0 : Nat), kp < ns1.length → (nAt ns1 kp).2.2.2.2 = d → c0 + d = dp → GX p l e rm_Mo_search s m args below meth c (MQ below (gxQ D vcl ca ks lay ad s.heap.size post) args s 0 0 (gxA ks ad s.heap.size)) 4 A D vcl ca ks lay ad 0 0 133 [(3, xI (nI kp)), (2, xI (nI c0)), (0, xR 40)] [] G L := by
        intro d
        induction d with
        | zero =>
          intro kp c0 g1 g2 g3
          have hk0 : kp = 0 := by
            rcases Nat.eq_zero_or_pos kp with q | q
            · exact q
            · obtain ⟨-, -, d3⟩ := (hl3 kp g1).2.2.2 q
              omega
          subst hk0
          have hc0 : c0 = dp := by omega
          subst hc0
          refine gx_iload_n X d_Mo_search_133 rfl rfl ?_
          refine gx_if_le X d_Mo_search_134 (tgt := 150) (by decide) (fun h134 => ?_) (fun h134 => ?_)
          · refine gx_aload_n X d_Mo_search_150 rfl rfl ?_
            refine gx_iload_n X d_Mo_search_151 rfl rfl ?_
            refine gx_puti X d_Mo_search_152 (gci in_Mo) (HX _ rfl).1 (HX _ rfl).2 rfl 21 (by decide) (gcw X lk_Mo_51) (fun _ h => h) t_Mo ty_Mo nm_Mo rfl (ty_Mo 21 (by decide)) rfl rfl rfl ?_
            refine gx_aload_n X d_Mo_search_155 rfl rfl ?_
            refine gx_geti X d_Mo_search_156 (gci in_Mo) (HX _ rfl).1 (HX _ rfl).2 rfl 16 (by decide) (gcw X lk_Mo_123) (fun _ h => h) rfl ?_
            refine gx_top (y := nI ns1.length) (by rw [gxu_ne (by decide)]; exact f5.2.1) ?_
            refine gx_iconst X d_Mo_search_159 (v := nI 1) (by decide) ?_
            refine gx_isub X d_Mo_search_160 ?_
            refine gx_top hsubl ?_
            refine gx_istore_n X d_Mo_search_161 rfl (by decide) ?_
            exact gx_el (loopB c0 (ns1.length - 1) [] _ (by omega) hdp (Nat.le_refl _) (by rw [hfull]; simp) (fun a a1 _ => gxu_cell a1) (fun j b1 => gxu_ne (fun q => b1 q.2)) gxu_at (fun i b1 b2 => absurd b1 (by omega))) ⟨rfl, rfl, rfl, trivial⟩
          · exact absurd (show nI 0 ≤ 0 by decide) h134
        | succ d ih =>
          intro kp c0 g1 g2 g3
          have hk0 : kp ≠ 0 := fun z => by
            have := (hl3 kp g1).2.2.1 z
            omega
          obtain ⟨d1, d2, d3⟩ := (hl3 kp g1).2.2.2 (by omega)
          obtain ⟨-, -, t3, t4⟩ := f5.2.2 kp g1
          rw [if_neg hk0] at t3 t4
          refine gx_iload_n X d_Mo_search_133 rfl rfl ?_
          refine gx_if_le X d_Mo_search_134 (tgt := 150) (by decide) (fun h134 => ?_) (fun h134 => ?_)
          · exact absurd ((nI_leI (a := kp) (b := 0) (by omega) (by decide)).mp h134) (by omega)
          · refine gx_iinc X d_Mo_search_137 rfl (pu_inc _) ?_
            refine gx_aload_n X d_Mo_search_140 rfl rfl ?_
            refine gx_getr X d_Mo_search_141 (gci in_Mo) (HX _ rfl).1 (HX _ rfl).2 rfl 19 (by decide) (gcw X lk_Mo_45) (fun _ h => h) rfl ?_
            refine gx_iload_n X d_Mo_search_144 rfl rfl ?_
            refine gx_iald X d_Mo_search_145 (HX _ rfl).1 (HX _ rfl).2 rfl (by omega) (by omega) ?_
            refine gx_top t3 ?_
            refine gx_istore_n X d_Mo_search_146 rfl (by decide) ?_
            refine gx_goto X d_Mo_search_147 (tgt := 133) (by decide) ?_
            exact gx_el (ih (nAt ns1 kp).2.2.1 (c0 + 1) (by omega) (by omega) (by omega)) ⟨rfl, rfl, rfl, trivial⟩
      refine gx_iload_n X d_Mo_search_106 rfl rfl ?_
      refine gx_if_eq X d_Mo_search_107 (tgt := 115) (by decide) (fun h107 => ?_) (fun h107 => ?_)
      · refine gx_aload_n X d_Mo_search_115 rfl rfl ?_
        refine gx_geti X d_Mo_search_116 (gci in_Mo) (HX _ rfl).1 (HX _ rfl).2 rfl 15 (by decide) (gcw X lk_Mo_35) (fun _ h => h) rfl ?_
        refine gx_top f8 ?_
        refine gx_iconst X d_Mo_search_119 (v := (-1)) (by decide) ?_
        refine gx_icmp_eq X d_Mo_search_120 (tgt := 124) (by decide) (fun h120 => ?_) (fun h120 => ?_)
        · refine gx_iconst X d_Mo_search_124 (v := nI 0) (by decide) ?_
          refine gx_istore_n X d_Mo_search_125 rfl (by decide) ?_
          refine gx_aload_n X d_Mo_search_126 rfl rfl ?_
          refine gx_geti X d_Mo_search_127 (gci in_Mo) (HX _ rfl).1 (HX _ rfl).2 rfl 16 (by decide) (gcw X lk_Mo_123) (fun _ h => h) rfl ?_
          refine gx_top f5.2.1 ?_
          refine gx_iconst X d_Mo_search_130 (v := nI 1) (by decide) ?_
          refine gx_isub X d_Mo_search_131 ?_
          refine gx_top hsubl ?_
          refine gx_istore_n X d_Mo_search_132 rfl (by decide) ?_
          exact gx_el (loopA dp (ns1.length - 1) 0 (by omega) hdp (by omega)) ⟨rfl, rfl, rfl, trivial⟩
        · exact absurd rfl h120
      · exact absurd rfl h107
  have outer : ∀ (r0 kk : Nat) (n0 : List nd) (G : Nat → Nat → Int32), kk + r0 = 200 → srN (rchB (2 ^ (3 * w)) w ek ev tg sg) (2 ^ np) ne ef et r0 kk n0 = zz → NsOK (2 ^ (3 * w)) np sg ne n0 → MrV G n0 → (∀ a, a ≠ 40 → ¬ (49 ≤ a ∧ a ≤ 53) → a ≠ 55 → G a = F a) → (∀ j, j ≠ 15 → j ≠ 16 → j ≠ 21 → j ≠ 23 → G 40 j = F 40 j) → G 40 23 = nI 0 → G 40 21 = -1 → G 40 15 = -1 → GX p l e rm_Mo_search s m args below meth c (MQ below (gxQ D vcl ca ks lay ad s.heap.size post) args s 0 0 (gxA ks ad s.heap.size)) 4 A D vcl ca ks lay ad 0 0 46 [(2, xI (nI kk)), (1, xI (nI 1)), (0, xR 40)] [] G L := by
    intro r0
    induction r0 with
    | zero =>
      intro kk n0 G hk hres hN1 hR1 f1 f2 f3 f4 f8
      have hres : (n0, 0) = zz := hres
      have hl := hN1.2.1
      refine gx_iload_n X d_Mo_search_46 rfl rfl ?_
      refine gx_aload_n X d_Mo_search_47 rfl rfl ?_
      refine gx_geti X d_Mo_search_48 (gci in_Mo) (HX _ rfl).1 (HX _ rfl).2 rfl 16 (by decide) (gcw X lk_Mo_123) (fun _ h => h) rfl ?_
      refine gx_top hR1.2.1 ?_
      refine gx_icmp_ge X d_Mo_search_51 (tgt := 106) (by decide) (fun h51 => ?_) (fun h51 => ?_)
      · subst hres
        exact gx_el (fin G f1 f2 f3 f4 hR1 hN1 (by simp) (by rw [if_neg (show ¬ (0 : Nat) = 1 by decide)]; exact f8)) ⟨rfl, rfl, trivial⟩
      · exact absurd ((nI_leI (by omega) (by omega)).mpr (by omega)) h51
    | succ r0 ih =>
      intro kk n0 G hk hres hN1 hR1 f1 f2 f3 f4 f8
      have hl := hN1.2.1
      rw [srN] at hres
      refine gx_iload_n X d_Mo_search_46 rfl rfl ?_
      refine gx_aload_n X d_Mo_search_47 rfl rfl ?_
      refine gx_geti X d_Mo_search_48 (gci in_Mo) (HX _ rfl).1 (HX _ rfl).2 rfl 16 (by decide) (gcw X lk_Mo_123) (fun _ h => h) rfl ?_
      refine gx_top hR1.2.1 ?_
      refine gx_icmp_ge X d_Mo_search_51 (tgt := 106) (by decide) (fun h51 => ?_) (fun h51 => ?_)
      · have hge : n0.length ≤ kk := (nI_leI (by omega) (by omega)).mp h51
        rw [if_neg (by omega)] at hres
        subst hres
        exact gx_el (fin G f1 f2 f3 f4 hR1 hN1 (by simp) (by rw [if_neg (show ¬ (0 : Nat) = 1 by decide)]; exact f8)) ⟨rfl, rfl, trivial⟩
      · have hlt : kk < n0.length := Nat.not_le.mp (fun z => h51 ((nI_leI (by omega) (by omega)).mpr z))
        rw [if_pos hlt] at hres
        refine gx_iload_n X d_Mo_search_54 rfl rfl ?_
        refine gx_if_eq X d_Mo_search_55 (tgt := 106) (by decide) (fun h55 => ?_) (fun h55 => ?_)
        · exact absurd h55 (by decide)
        · refine gx_iconst X d_Mo_search_58 (v := nI 0) (by decide) ?_
          refine gx_istore_n X d_Mo_search_59 rfl (by decide) ?_
          generalize hx : nAt n0 kk = x at hres
          generalize hz1 : sprE (rchB (2 ^ (3 * w)) w ek ev tg sg) (2 ^ np) ef et kk x ne 0 n0 = z1 at hres
          have inner : ∀ (r1 e0 : Nat) (n1 : List nd) (G : Nat → Nat → Int32), e0 + r1 = ne → sprE (rchB (2 ^ (3 * w)) w ek ev tg sg) (2 ^ np) ef et kk x r1 e0 n1 = z1 → nAt n1 kk = x → kk < n1.length → NsOK (2 ^ (3 * w)) np sg ne n1 → MrV G n1 → (∀ a, a ≠ 40 → ¬ (49 ≤ a ∧ a ≤ 53) → a ≠ 55 → G a = F a) → (∀ j, j ≠ 15 → j ≠ 16 → j ≠ 21 → j ≠ 23 → G 40 j = F 40 j) → G 40 23 = nI 0 → G 40 21 = -1 → G 40 15 = -1 → GX p l e rm_Mo_search s m args below meth c (MQ below (gxQ D vcl ca ks lay ad s.heap.size post) args s 0 0 (gxA ks ad s.heap.size)) 4 A D vcl ca ks lay ad 0 0 60 [(3, xI (nI e0)), (2, xI (nI kk)), (1, xI (nI 1)), (0, xR 40)] [] G L := by
            intro r1
            induction r1 with
            | zero =>
              intro e0 n1 G he hr1 hxx hkl hN2 hR2 f1 f2 f3 f4 f8
              have hr1 : (n1, 0) = z1 := hr1
              refine gx_iload_n X d_Mo_search_60 rfl rfl ?_
              refine gx_aload_n X d_Mo_search_61 rfl rfl ?_
              refine gx_geti X d_Mo_search_62 (gci in_Mo) (HX _ rfl).1 (HX _ rfl).2 rfl 6 (by decide) (gcw X lk_Mo_138) (fun _ h => h) rfl ?_
              refine gx_top (y := nI ne) (by rw [f2 6 (by decide) (by decide) (by decide) (by decide)]; exact hE.2.1) ?_
              refine gx_icmp_ge X d_Mo_search_65 (tgt := 100) (by decide) (fun h65 => ?_) (fun h65 => ?_)
              · rw [← hr1, if_pos rfl] at hres
                refine gx_iinc X d_Mo_search_100 rfl (pu_inc _) ?_
                refine gx_goto X d_Mo_search_103 (tgt := 46) (by decide) ?_
                exact gx_el (ih (kk + 1) n1 G (by omega) hres hN2 hR2 f1 f2 f3 f4 f8) ⟨rfl, rfl, rfl, trivial⟩
              · exact absurd ((nI_leI (by omega) (by omega)).mpr (by omega)) h65
            | succ r1 ih1 =>
              intro e0 n1 G he hr1 hxx hkl hN2 hR2 f1 f2 f3 f4 f8
              have hE2 : MeOK G L w ne ef et ek ev tg := hE.of (f2 6 (by decide) (by decide) (by decide) (by decide)) (fun a ha => f1 a (by omega) (by omega) (by omega)) rfl
              have hG2 : MgOK G L (2 ^ (3 * w)) np sg := hG.of (f2 12 (by decide) (by decide) (by decide) (by decide)) (f1 48 (by decide) (by decide) (by decide)) rfl
              have hS2 : MsOK G w := hS.of (fun j hj => f2 j (by omega) (by omega) (by omega) (by omega))
              have hl2 := hN2.2.1
              obtain ⟨⟨a1, a2⟩, -, -, -, -⟩ := hE2.2.2 e0 (by omega)
              have b1 := (hR2.2.2 kk hkl).1
              rw [hxx] at b1
              have hx12 := (hN2.2.2 kk hkl).1
              rw [hxx] at hx12
              rw [sprE] at hr1
              refine gx_iload_n X d_Mo_search_60 rfl rfl ?_
              refine gx_aload_n X d_Mo_search_61 rfl rfl ?_
              refine gx_geti X d_Mo_search_62 (gci in_Mo) (HX _ rfl).1 (HX _ rfl).2 rfl 6 (by decide) (gcw X lk_Mo_138) (fun _ h => h) rfl ?_
              refine gx_top (y := nI ne) (by rw [f2 6 (by decide) (by decide) (by decide) (by decide)]; exact hE.2.1) ?_
              refine gx_icmp_ge X d_Mo_search_65 (tgt := 100) (by decide) (fun h65 => ?_) (fun h65 => ?_)
              · exact absurd ((nI_leI (by omega) (by omega)).mp h65) (by omega)
              · refine gx_iload_n X d_Mo_search_68 rfl rfl ?_
                refine gx_if_eq X d_Mo_search_69 (tgt := 100) (by decide) (fun h69 => ?_) (fun h69 => ?_)
                · exact absurd h69 (by decide)
                · refine gx_aload_n X d_Mo_search_72 rfl rfl ?_
                  refine gx_getr X d_Mo_search_73 (gci in_Mo) (HX _ rfl).1 (HX _ rfl).2 rfl 7 (by decide) (gcw X lk_Mo_13) (fun _ h => h) rfl ?_
                  refine gx_iload_n X d_Mo_search_76 rfl rfl ?_
                  refine gx_iald X d_Mo_search_77 (HX _ rfl).1 (HX _ rfl).2 rfl (by omega) (by omega) ?_
                  refine gx_top a1 ?_
                  refine gx_aload_n X d_Mo_search_78 rfl rfl ?_
                  refine gx_getr X d_Mo_search_79 (gci in_Mo) (HX _ rfl).1 (HX _ rfl).2 rfl 17 (by decide) (gcw X lk_Mo_39) (fun _ h => h) rfl ?_
                  refine gx_iload_n X d_Mo_search_82 rfl rfl ?_
                  refine gx_iald X d_Mo_search_83 (HX _ rfl).1 (HX _ rfl).2 rfl (by omega) (by omega) ?_
                  refine gx_top b1 ?_
                  refine gx_icmp_ne X d_Mo_search_84 (tgt := 94) (by decide) (fun h84 => ?_) (fun h84 => ?_)
                  · have hne : ef e0 ≠ x.1 := fun z => h84 (by rw [z])
                    rw [if_neg hne] at hr1
                    refine gx_iinc X d_Mo_search_94 rfl (pu_inc _) ?_
                    refine gx_goto X d_Mo_search_97 (tgt := 60) (by decide) ?_
                    exact gx_el (ih1 (e0 + 1) n1 G (by omega) hr1 hxx hkl hN2 hR2 f1 f2 f3 f4 f8) ⟨rfl, rfl, rfl, rfl, trivial⟩
                  · have hee : ef e0 = x.1 := (nI_eq (by omega) (by omega)).mp h84
                    rw [if_pos hee] at hr1
                    refine gx_aload_n X d_Mo_search_87 rfl rfl ?_
                    refine gx_iload_n X d_Mo_search_88 rfl rfl ?_
                    refine gx_iload_n X d_Mo_search_89 rfl rfl ?_
                    refine gx_callV X d_Mo_search_90 mf_Mo_spread lk_Mo_174 (c_Mo_spread HX hS2 hE2 hG2 hN2 hR2 (kk := kk) (e0 := e0) hkl (by omega)) (HX _ rfl).1 (HX _ rfl).2 rfl rfl rfl (Nat.le_of_ble_eq_true rfl) ⟨by decide, by decide⟩ ⟨rfl, rfl⟩ ⟨Nat.zero_le _, Nat.zero_le _⟩ (fun r90 F90 L90 hp90 => ?_)
                    obtain ⟨rfl, rfl, hT⟩ := hp90
                    rw [hxx] at hT ⊢
                    have hext := sprP_ext (R := rchB (2 ^ (3 * w)) w ek ev tg sg e0 x.2.1) (to := et e0) (k := kk) (e := e0) (dp := x.2.2.2.2) (2 ^ np) 0 n1
                    generalize sprP (rchB (2 ^ (3 * w)) w ek ev tg sg e0 x.2.1) (et e0) kk e0 x.2.2.2.2 (2 ^ np) 0 n1 = z2 at hT hr1 hext ⊢
                    obtain ⟨t1, t2, t3, t4, t5⟩ := hT
                    have u1 : ∀ a, a ≠ 40 → ¬ (49 ≤ a ∧ a ≤ 53) → a ≠ 55 → F90 a = F a := fun a b1 b2 b3 => by rw [t1 a b1 (by omega) b3, f1 a b1 b2 b3]
                    have u2 : ∀ j, j ≠ 15 → j ≠ 16 → j ≠ 21 → j ≠ 23 → F90 40 j = F 40 j := fun j b1 b2 b3 b4 => by rw [t2 j b1 b2, f2 j b1 b2 b3 b4]
                    have u3 : F90 40 23 = nI 0 := (t2 23 (by decide) (by decide)).trans f3
                    have u4 : F90 40 21 = -1 := (t2 21 (by decide) (by decide)).trans f4
                    by_cases h0 : z2.2 = 0
                    · rw [if_pos h0] at hr1
                      rw [decide_eq_true h0]
                      rw [if_neg (by omega)] at t5
                      refine gx_istore_n X d_Mo_search_93 rfl (by decide) ?_
                      refine gx_iinc X d_Mo_search_94 rfl (pu_inc _) ?_
                      refine gx_goto X d_Mo_search_97 (tgt := 60) (by decide) ?_
                      exact gx_el (ih1 (e0 + 1) z2.1 F90 (by omega) hr1 (by rw [hext.2.1 kk hkl]; exact hxx) (by omega) t4 t3 u1 u2 u3 u4 (t5.trans f8)) ⟨rfl, rfl, rfl, rfl, trivial⟩
                    · rw [if_neg h0] at hr1
                      rw [← hr1, if_neg h0] at hres
                      rw [f8] at t5
                      subst hres
                      have hfin := fin F90 u1 u2 u3 u4 t3 t4 hext.2.2 t5
                      rw [decide_eq_false h0] at hfin ⊢
                      refine gx_istore_n X d_Mo_search_93 rfl (by decide) ?_
                      refine gx_iinc X d_Mo_search_94 rfl (pu_inc _) ?_
                      refine gx_goto X d_Mo_search_97 (tgt := 60) (by decide) ?_
                      refine gx_iload_n X d_Mo_search_60 rfl rfl ?_
                      refine gx_aload_n X d_Mo_search_61 rfl rfl ?_
                      refine gx_geti X d_Mo_search_62 (gci in_Mo) (HX _ rfl).1 (HX _ rfl).2 rfl 6 (by decide) (gcw X lk_Mo_138) (fun _ h => h) rfl ?_
                      refine gx_top (y := nI ne) (by rw [u2 6 (by decide) (by decide) (by decide) (by decide)]; exact hE.2.1) ?_
                      have f100 : GX p l e rm_Mo_search s m args below meth c (MQ below (gxQ D vcl ca ks lay ad s.heap.size post) args s 0 0 (gxA ks ad s.heap.size)) 4 A D vcl ca ks lay ad 0 0 100 [(2, xI (nI kk)), (1, xI 0), (0, xR 40)] [] F90 L90 := by
                        refine gx_iinc X d_Mo_search_100 rfl (pu_inc _) ?_
                        refine gx_goto X d_Mo_search_103 (tgt := 46) (by decide) ?_
                        refine gx_iload_n X d_Mo_search_46 rfl rfl ?_
                        refine gx_aload_n X d_Mo_search_47 rfl rfl ?_
                        refine gx_geti X d_Mo_search_48 (gci in_Mo) (HX _ rfl).1 (HX _ rfl).2 rfl 16 (by decide) (gcw X lk_Mo_123) (fun _ h => h) rfl ?_
                        refine gx_top t3.2.1 ?_
                        refine gx_icmp_ge X d_Mo_search_51 (tgt := 106) (by decide) (fun h51 => ?_) (fun h51 => ?_)
                        · exact gx_el hfin ⟨rfl, rfl, trivial⟩
                        · refine gx_iload_n X d_Mo_search_54 rfl rfl ?_
                          refine gx_if_eq X d_Mo_search_55 (tgt := 106) (by decide) (fun h55 => ?_) (fun h55 => ?_)
                          · exact gx_el hfin ⟨rfl, rfl, trivial⟩
                          · exact absurd rfl h55
                      refine gx_icmp_ge X d_Mo_search_65 (tgt := 100) (by decide) (fun h65 => ?_) (fun h65 => ?_)
                      · exact gx_el f100 ⟨rfl, rfl, rfl, trivial⟩
                      · refine gx_iload_n X d_Mo_search_68 rfl rfl ?_
                        refine gx_if_eq X d_Mo_search_69 (tgt := 100) (by decide) (fun h69 => ?_) (fun h69 => ?_)
                        · exact gx_el f100 ⟨rfl, rfl, rfl, trivial⟩
                        · exact absurd rfl h69
          exact gx_el (inner ne 0 n0 G (by omega) hz1 hx hlt hN1 hR1 f1 f2 f3 f4 f8) ⟨rfl, rfl, rfl, rfl, trivial⟩
  refine gx_aload_n X d_Mo_search_0 rfl rfl ?_
  refine gx_callV X d_Mo_search_1 mf_Mo_forget lk_Mo_145 (c_Mo_forget HX) (HX _ rfl).1 (HX _ rfl).2 rfl rfl rfl (Nat.le_of_ble_eq_true rfl) ⟨by decide, by decide⟩ ⟨rfl, rfl⟩ ⟨Nat.zero_le _, Nat.zero_le _⟩ (fun r1 F1 L1 hp1 => ?_)
  obtain ⟨rfl, q1, rfl⟩ := hp1
  refine gx_aload_n X d_Mo_search_4 rfl rfl ?_
  refine gx_getr X d_Mo_search_5 (gci in_Mo) (HX _ rfl).1 (HX _ rfl).2 rfl 17 (by decide) (gcw X lk_Mo_39) (fun _ h => h) rfl ?_
  refine gx_iconst X d_Mo_search_8 (v := nI 0) (by decide) ?_
  refine gx_iconst X d_Mo_search_9 (v := nI 0) (by decide) ?_
  refine gx_iast X d_Mo_search_10 (HX _ rfl).1 (HX _ rfl).2 rfl (by omega) (by omega) ?_
  refine gx_aload_n X d_Mo_search_11 rfl rfl ?_
  refine gx_getr X d_Mo_search_12 (gci in_Mo) (HX _ rfl).1 (HX _ rfl).2 rfl 18 (by decide) (gcw X lk_Mo_42) (fun _ h => h) rfl ?_
  refine gx_iconst X d_Mo_search_15 (v := nI 0) (by decide) ?_
  refine gx_aload_n X d_Mo_search_16 rfl rfl ?_
  refine gx_getr X d_Mo_search_17 (gci in_Mo) (HX _ rfl).1 (HX _ rfl).2 rfl 14 (by decide) (gcw X lk_Mo_32) (fun _ h => h) rfl ?_
  refine gx_iconst X d_Mo_search_20 (v := nI 0) (by decide) ?_
  refine gx_iald X d_Mo_search_21 (HX _ rfl).1 (HX _ rfl).2 rfl (by omega) (by omega) ?_
  refine gx_top (y := nI (sg 0)) (by rw [gxu_cell (by decide), q1, gxu_cell (by decide), gxu_cell (by decide), gxu_cell (by decide), gxu_cell (by decide)]; exact (hG.2.2 0 hN0).1) ?_
  refine gx_iast X d_Mo_search_22 (HX _ rfl).1 (HX _ rfl).2 rfl (by omega) (by omega) ?_
  refine gx_aload_n X d_Mo_search_23 rfl rfl ?_
  refine gx_getr X d_Mo_search_24 (gci in_Mo) (HX _ rfl).1 (HX _ rfl).2 rfl 19 (by decide) (gcw X lk_Mo_45) (fun _ h => h) rfl ?_
  refine gx_iconst X d_Mo_search_27 (v := nI 0) (by decide) ?_
  refine gx_iconst X d_Mo_search_28 (v := (-1)) (by decide) ?_
  refine gx_iast X d_Mo_search_29 (HX _ rfl).1 (HX _ rfl).2 rfl (by omega) (by omega) ?_
  refine gx_aload_n X d_Mo_search_30 rfl rfl ?_
  refine gx_getr X d_Mo_search_31 (gci in_Mo) (HX _ rfl).1 (HX _ rfl).2 rfl 20 (by decide) (gcw X lk_Mo_48) (fun _ h => h) rfl ?_
  refine gx_iconst X d_Mo_search_34 (v := nI 0) (by decide) ?_
  refine gx_iconst X d_Mo_search_35 (v := (-1)) (by decide) ?_
  refine gx_iast X d_Mo_search_36 (HX _ rfl).1 (HX _ rfl).2 rfl (by omega) (by omega) ?_
  refine gx_aload_n X d_Mo_search_37 rfl rfl ?_
  refine gx_iconst X d_Mo_search_38 (v := nI 1) (by decide) ?_
  refine gx_puti X d_Mo_search_39 (gci in_Mo) (HX _ rfl).1 (HX _ rfl).2 rfl 16 (by decide) (gcw X lk_Mo_123) (fun _ h => h) t_Mo ty_Mo nm_Mo rfl (ty_Mo 16 (by decide)) rfl rfl rfl ?_
  refine gx_iconst X d_Mo_search_42 (v := nI 1) (by decide) ?_
  refine gx_istore_n X d_Mo_search_43 rfl (by decide) ?_
  refine gx_iconst X d_Mo_search_44 (v := nI 0) (by decide) ?_
  refine gx_istore_n X d_Mo_search_45 rfl (by decide) ?_
  have hNs1 : NsOK (2 ^ (3 * w)) np sg ne [(0, sg 0, 0, 0, 0)] := ⟨by simp, by simp, fun k hk => by
    have : k = 0 := by simpa using hk
    subst this
    exact ⟨Nat.zero_lt_succ _, prs_iff.mpr ⟨0, hN0, rfl⟩, fun _ => rfl, fun z => absurd z (by omega)⟩⟩
  refine gx_el (outer 200 0 _ _ (by omega) hzz hNs1 ⟨by simp, by rw [gxu_at]; rfl, fun k hk => ?_⟩ (fun a b1 b2 b3 => ?_) (fun j b1 b2 b3 b4 => ?_) ?_ ?_ ?_) ⟨rfl, rfl, rfl, trivial⟩
  · have : k = 0 := by simpa using hk
    subst this
    refine ⟨?_, ?_, ?_, ?_⟩ <;> simp [gxu, nAt]
  · rw [gxu_cell b1, gxu_cell (by omega), gxu_cell (by omega), gxu_cell (by omega), gxu_cell (by omega), q1, gxu_cell b1, gxu_cell b1, gxu_cell b1, gxu_cell b1]
  · rw [gxu_ne (by omega), gxu_cell (by decide), gxu_cell (by decide), gxu_cell (by decide), gxu_cell (by decide), q1, gxu_ne (by omega), gxu_ne (by omega), gxu_ne (by omega), gxu_ne (by omega)]
  · rw [gxu_ne (by decide), gxu_cell (by decide), gxu_cell (by decide), gxu_cell (by decide), gxu_cell (by decide), q1, gxu_at]
  · rw [gxu_ne (by decide), gxu_cell (by decide), gxu_cell (by decide), gxu_cell (by decide), gxu_cell (by decide), q1, gxu_ne (by decide), gxu_at]
  · rw [gxu_ne (by decide), gxu_cell (by decide), gxu_cell (by decide), gxu_cell (by decide), gxu_cell (by decide), q1, gxu_ne (by decide), gxu_ne (by decide), gxu_ne (by decide), gxu_at]
end
