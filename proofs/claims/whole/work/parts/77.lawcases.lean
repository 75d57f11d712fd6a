/-! the law's switch, case by case (own text, printed by gen_law.py) -/
def LwC (l : Launch) (p : Program) (s : State) (m : MethodId) (args : Array Value) (meth : Method) (c : Code) (c0 : Cond) (A : Nat → Prop) (D : va_G) (ca : Nat → ClassId) (ks : List Nat) (lay : Nat → gxE) (ad : Nat → Nat) (w n : Nat) (xs : Nat → Int32) : Prop :=
  GC p s m args meth c b_Lw_law 7 R_Lw (c0 :: WT) A D vcl ca ks ad ∧ hSt s ∧ (∀ q, A q → ∀ cell, s.heap[q]? = some cell → cell.vm.isStatics = false) ∧ gH ks lay (2 ^ (3 * w)) sX ∧ gH ks lay (2 ^ (3 * w)) sM ∧ gH ks lay (2 ^ (3 * w)) s60 ∧ ks.Nodup ∧ l.flags = pinnedFlags ++ [noTraceFlag] ∧ va_X (ad 61) n xs s s.heap ∧ ad 61 < s.heap.size ∧ ¬ A (ad 61) ∧ n < 2 ^ 31
theorem SpH_01 {w : Nat} {z z' : kS} {x y v : Int32} {k : Nat} (hs : SpH w z x y k v z') : v = 0 ∨ v = 1 := by
  obtain ⟨-, ⟨-, -, hv⟩ | ⟨a, q, -, -, -, -, -, hv⟩⟩ := hs
  · exact Or.inl (hv.trans rfl)
  · rcases hb9 : (z.sg q).testBit a with _ | _
    · exact Or.inl (by rw [hv, hb9]; rfl)
    · exact Or.inr (by rw [hv, hb9]; rfl)
section LWC
variable {p : Program} {l : Launch} {e : Env} {s : State} {m : MethodId} {args : Array Value} {below : List Frame} {meth : Method} {c : Code} {Q : State → Prop} {cells slots : Nat} {A : Nat → Prop} {D : va_G} {ca : Nat → ClassId} {ks : List Nat} {lay : Nat → gxE} {ad : Nat → Nat}
variable {F : Nat → Nat → Int32} {L : Nat → Nat → Int64} {c0 : Cond} {w n i0 : Nat} {xs : Nat → Int32} {z : kS}
set_option maxHeartbeats 4000000 in
theorem lw_type (C : LwC l p s m args meth c c0 A D ca ks lay ad w n xs) (hI : LI w F L z) (hi : i0 + 3 < n) (hc : cells + 1 ≤ room_1.cells ∧ slots + 6 ≤ room_1.slots) (K : ∀ F' L' z', LI w F' L' z' → GX p l e room_1 s m args below meth c Q 7 A D vcl ca ks lay ad (cells + 1) (slots + 6) 781 [(4, xI (nI i0)), (3, xR 60), (2, xR 40), (1, xR 0), (0, xR 61)] [] F' L') : GX p l e room_1 s m args below meth c Q 7 A D vcl ca ks lay ad cells slots 132 [(4, xI (nI i0)), (3, xR 60), (2, xR 40), (1, xR 0), (0, xR 61)] [] F L := by
  obtain ⟨X, hT, hst, HX, HM, H6, hnd, hf, hV, hb, hbA, hn⟩ := C
  obtain ⟨hK, hM, hq⟩ := hI
  have hc0 : cells ≤ room_1.cells ∧ slots ≤ room_1.slots := ⟨by omega, by omega⟩
  refine gx_aload_n X d_Lw_law_132 rfl rfl ?_
  refine gx_aload_n X d_Lw_law_133 rfl rfl ?_
  refine gx_iload X d_Lw_law_134 rfl ?_
  refine gx_iconst X d_Lw_law_136 (v := nI 1) (by decide) ?_
  refine gx_iadd X d_Lw_law_137 ?_
  refine gx_sld X hV hb hbA d_Lw_law_138 (nI_add _ _) (by omega) hn ?_
  refine gx_i2c X d_Lw_law_139 rfl ?_
  refine gx_callV X d_Lw_law_140 mf_PP_type lk_Lw_60 (Con.widen flt_sub (List.Pairwise.filter _ hnd) (c_PP_type HX.flt hK _)) (HX _ rfl).1 (HX _ rfl).2 rfl rfl rfl (Nat.le_of_ble_eq_true rfl) ⟨Nat.le_of_ble_eq_true rfl, Nat.le_of_ble_eq_true rfl⟩ ⟨rfl, rfl⟩ hc0 (fun r140 F140 L140 hp140 => ?_)
  obtain ⟨F1, L1, ⟨-, g1⟩, rfl, rfl⟩ := hp140
  rcases g1 with ⟨g1, rfl, g2⟩ | ⟨g1, rfl, g2⟩
  · refine gx_aload_n X d_Lw_law_143 rfl rfl ?_
    refine gx_aload_n X d_Lw_law_144 rfl rfl ?_
    refine gx_iload X d_Lw_law_145 rfl ?_
    refine gx_iconst X d_Lw_law_147 (v := nI 1) (by decide) ?_
    refine gx_iadd X d_Lw_law_148 ?_
    refine gx_sld X hV hb hbA d_Lw_law_149 (nI_add _ _) (by omega) hn ?_
    refine gx_i2c X d_Lw_law_150 rfl ?_
    refine gx_callV X d_Lw_law_151 mf_Mo_type lk_Lw_64 (Con.widen flt_sub (List.Pairwise.filter _ hnd) (m_type HM.flt (MOK.afterX hM) _)) (HM _ rfl).1 (HM _ rfl).2 rfl rfl rfl (Nat.le_of_ble_eq_true rfl) ⟨Nat.le_of_ble_eq_true rfl, Nat.le_of_ble_eq_true rfl⟩ ⟨rfl, rfl⟩ hc0 (fun r151 F151 L151 hp151 => ?_)
    obtain ⟨F2, L2, ⟨-, -, u1⟩, rfl, rfl⟩ := hp151
    rcases u1 with ⟨u1, rfl, u2⟩ | ⟨u1, rfl, u2⟩
    · skip
      refine gx_icmp_eq X d_Lw_law_154 (tgt := 781) (by decide) (fun h154 => ?_) (fun h154 => ?_)
      · exact gx_wd (Nat.le_succ _) (Nat.le_add_right _ _) (gx_el (K _ _ _ ⟨(g2.inX HX).afterM, u2.inM HM, hq⟩) ⟨rfl, rfl, rfl, rfl, rfl, trivial⟩)
      · exact absurd rfl h154
    · exact absurd g1 u1
  · refine gx_aload_n X d_Lw_law_143 rfl rfl ?_
    refine gx_aload_n X d_Lw_law_144 rfl rfl ?_
    refine gx_iload X d_Lw_law_145 rfl ?_
    refine gx_iconst X d_Lw_law_147 (v := nI 1) (by decide) ?_
    refine gx_iadd X d_Lw_law_148 ?_
    refine gx_sld X hV hb hbA d_Lw_law_149 (nI_add _ _) (by omega) hn ?_
    refine gx_i2c X d_Lw_law_150 rfl ?_
    refine gx_callV X d_Lw_law_151 mf_Mo_type lk_Lw_64 (Con.widen flt_sub (List.Pairwise.filter _ hnd) (m_type HM.flt (MOK.afterX hM) _)) (HM _ rfl).1 (HM _ rfl).2 rfl rfl rfl (Nat.le_of_ble_eq_true rfl) ⟨Nat.le_of_ble_eq_true rfl, Nat.le_of_ble_eq_true rfl⟩ ⟨rfl, rfl⟩ hc0 (fun r151 F151 L151 hp151 => ?_)
    obtain ⟨F2, L2, ⟨-, -, u1⟩, rfl, rfl⟩ := hp151
    rcases u1 with ⟨u1, rfl, u2⟩ | ⟨u1, rfl, u2⟩
    · exact absurd u1 g1
    · skip
      refine gx_icmp_eq X d_Lw_law_154 (tgt := 781) (by decide) (fun h154 => ?_) (fun h154 => ?_)
      · exact gx_wd (Nat.le_succ _) (Nat.le_add_right _ _) (gx_el (K _ _ _ ⟨(g2.inX HX).afterM, u2.inM HM, hq⟩) ⟨rfl, rfl, rfl, rfl, rfl, trivial⟩)
      · exact absurd rfl h154
set_option maxHeartbeats 4000000 in
theorem lw_wipe (C : LwC l p s m args meth c c0 A D ca ks lay ad w n xs) (hI : LI w F L z) (hi : i0 + 3 < n) (hc : cells + 1 ≤ room_1.cells ∧ slots + 6 ≤ room_1.slots) (K : ∀ F' L' z', LI w F' L' z' → GX p l e room_1 s m args below meth c Q 7 A D vcl ca ks lay ad (cells + 1) (slots + 6) 781 [(4, xI (nI i0)), (3, xR 60), (2, xR 40), (1, xR 0), (0, xR 61)] [] F' L') : GX p l e room_1 s m args below meth c Q 7 A D vcl ca ks lay ad cells slots 159 [(4, xI (nI i0)), (3, xR 60), (2, xR 40), (1, xR 0), (0, xR 61)] [] F L := by
  obtain ⟨X, hT, hst, HX, HM, H6, hnd, hf, hV, hb, hbA, hn⟩ := C
  obtain ⟨hK, hM, hq⟩ := hI
  have hc0 : cells ≤ room_1.cells ∧ slots ≤ room_1.slots := ⟨by omega, by omega⟩
  refine gx_aload_n X d_Lw_law_159 rfl rfl ?_
  refine gx_callV X d_Lw_law_160 mf_PP_wipe lk_Lw_65 (Con.widen flt_sub (List.Pairwise.filter _ hnd) (c_PP_wipe HX.flt hK)) (HX _ rfl).1 (HX _ rfl).2 rfl rfl rfl (Nat.le_of_ble_eq_true rfl) ⟨Nat.le_of_ble_eq_true rfl, Nat.le_of_ble_eq_true rfl⟩ ⟨rfl, rfl⟩ hc0 (fun r160 F160 L160 hp160 => ?_)
  obtain ⟨F1, L1, ⟨rfl, -, g2⟩, rfl, rfl⟩ := hp160
  refine gx_aload_n X d_Lw_law_163 rfl rfl ?_
  refine gx_callV X d_Lw_law_164 mf_Mo_wipe lk_Lw_68 (Con.widen flt_sub (List.Pairwise.filter _ hnd) (m_wipe HM.flt (MOK.afterX hM))) (HM _ rfl).1 (HM _ rfl).2 rfl rfl rfl (Nat.le_of_ble_eq_true rfl) ⟨Nat.le_of_ble_eq_true rfl, Nat.le_of_ble_eq_true rfl⟩ ⟨rfl, rfl⟩ hc0 (fun r164 F164 L164 hp164 => ?_)
  obtain ⟨F2, L2, ⟨rfl, -, u2⟩, rfl, rfl⟩ := hp164
  refine gx_goto X d_Lw_law_167 (tgt := 781) (by decide) ?_
  exact gx_wd (Nat.le_succ _) (Nat.le_add_right _ _) (gx_el (K _ _ (z.wip) ⟨(g2.inX HX).afterM, u2.inM HM, hq⟩) ⟨rfl, rfl, rfl, rfl, rfl, trivial⟩)
set_option maxHeartbeats 4000000 in
theorem lw_clear (C : LwC l p s m args meth c c0 A D ca ks lay ad w n xs) (hI : LI w F L z) (hi : i0 + 3 < n) (hc : cells + 1 ≤ room_1.cells ∧ slots + 6 ≤ room_1.slots) (K : ∀ F' L' z', LI w F' L' z' → GX p l e room_1 s m args below meth c Q 7 A D vcl ca ks lay ad (cells + 1) (slots + 6) 781 [(4, xI (nI i0)), (3, xR 60), (2, xR 40), (1, xR 0), (0, xR 61)] [] F' L') : GX p l e room_1 s m args below meth c Q 7 A D vcl ca ks lay ad cells slots 258 [(4, xI (nI i0)), (3, xR 60), (2, xR 40), (1, xR 0), (0, xR 61)] [] F L := by
  obtain ⟨X, hT, hst, HX, HM, H6, hnd, hf, hV, hb, hbA, hn⟩ := C
  obtain ⟨hK, hM, hq⟩ := hI
  have hc0 : cells ≤ room_1.cells ∧ slots ≤ room_1.slots := ⟨by omega, by omega⟩
  refine gx_aload_n X d_Lw_law_258 rfl rfl ?_
  refine gx_callV X d_Lw_law_259 mf_PP_clear lk_Lw_79 (Con.widen flt_sub (List.Pairwise.filter _ hnd) (c_PP_clear HX.flt hK)) (HX _ rfl).1 (HX _ rfl).2 rfl rfl rfl (Nat.le_of_ble_eq_true rfl) ⟨Nat.le_of_ble_eq_true rfl, Nat.le_of_ble_eq_true rfl⟩ ⟨rfl, rfl⟩ hc0 (fun r259 F259 L259 hp259 => ?_)
  obtain ⟨F1, L1, ⟨rfl, -, g2⟩, rfl, rfl⟩ := hp259
  refine gx_aload_n X d_Lw_law_262 rfl rfl ?_
  refine gx_callV X d_Lw_law_263 mf_Mo_clear lk_Lw_82 (Con.widen flt_sub (List.Pairwise.filter _ hnd) (m_clear HM.flt (MOK.afterX hM))) (HM _ rfl).1 (HM _ rfl).2 rfl rfl rfl (Nat.le_of_ble_eq_true rfl) ⟨Nat.le_of_ble_eq_true rfl, Nat.le_of_ble_eq_true rfl⟩ ⟨rfl, rfl⟩ hc0 (fun r263 F263 L263 hp263 => ?_)
  obtain ⟨F2, L2, ⟨rfl, -, u2⟩, rfl, rfl⟩ := hp263
  refine gx_goto X d_Lw_law_266 (tgt := 781) (by decide) ?_
  exact gx_wd (Nat.le_succ _) (Nat.le_add_right _ _) (gx_el (K _ _ (z.clr.fgt) ⟨(g2.inX HX).afterM, u2.inM HM, (iq_fgt _)⟩) ⟨rfl, rfl, rfl, rfl, rfl, trivial⟩)
set_option maxHeartbeats 4000000 in
theorem lw_outcome (C : LwC l p s m args meth c c0 A D ca ks lay ad w n xs) (hI : LI w F L z) (hi : i0 + 3 < n) (hc : cells + 1 ≤ room_1.cells ∧ slots + 6 ≤ room_1.slots) (K : ∀ F' L' z', LI w F' L' z' → GX p l e room_1 s m args below meth c Q 7 A D vcl ca ks lay ad (cells + 1) (slots + 6) 781 [(4, xI (nI i0)), (3, xR 60), (2, xR 40), (1, xR 0), (0, xR 61)] [] F' L') : GX p l e room_1 s m args below meth c Q 7 A D vcl ca ks lay ad cells slots 325 [(4, xI (nI i0)), (3, xR 60), (2, xR 40), (1, xR 0), (0, xR 61)] [] F L := by
  obtain ⟨X, hT, hst, HX, HM, H6, hnd, hf, hV, hb, hbA, hn⟩ := C
  obtain ⟨hK, hM, hq⟩ := hI
  have hc0 : cells ≤ room_1.cells ∧ slots ≤ room_1.slots := ⟨by omega, by omega⟩
  refine gx_aload_n X d_Lw_law_325 rfl rfl ?_
  refine gx_callV X d_Lw_law_326 mf_PP_outcome lk_Lw_87 (Con.widen flt_sub (List.Pairwise.filter _ hnd) (c_PP_outcome HX.flt hK)) (HX _ rfl).1 (HX _ rfl).2 rfl rfl rfl (Nat.le_of_ble_eq_true rfl) ⟨Nat.le_of_ble_eq_true rfl, Nat.le_of_ble_eq_true rfl⟩ ⟨rfl, rfl⟩ hc0 (fun r326 F326 L326 hp326 => ?_)
  obtain ⟨F1, L1, ⟨rfl, e1, -⟩, rfl, rfl⟩ := hp326
  rw [e1]
  refine gx_aload_n X d_Lw_law_329 rfl rfl ?_
  refine gx_callV X d_Lw_law_330 mf_Mo_outcome lk_Lw_90 (Con.widen flt_sub (List.Pairwise.filter _ hnd) (m_outcome HM.flt (MOK.afterX hM))) (HM _ rfl).1 (HM _ rfl).2 rfl rfl rfl (Nat.le_of_ble_eq_true rfl) ⟨Nat.le_of_ble_eq_true rfl, Nat.le_of_ble_eq_true rfl⟩ ⟨rfl, rfl⟩ hc0 (fun r330 F330 L330 hp330 => ?_)
  obtain ⟨F2, L2, ⟨rfl, -, u2⟩, rfl, rfl⟩ := hp330
  refine gx_icmp_eq X d_Lw_law_333 (tgt := 781) (by decide) (fun h333 => ?_) (fun h333 => ?_)
  · exact gx_wd (Nat.le_succ _) (Nat.le_add_right _ _) (gx_el (K _ _ _ ⟨(hK.inX HX).afterM, u2.inM HM, hq⟩) ⟨rfl, rfl, rfl, rfl, rfl, trivial⟩)
  · exact absurd rfl h333
set_option maxHeartbeats 4000000 in
theorem lw_edges (C : LwC l p s m args meth c c0 A D ca ks lay ad w n xs) (hI : LI w F L z) (hi : i0 + 3 < n) (hc : cells + 1 ≤ room_1.cells ∧ slots + 6 ≤ room_1.slots) (K : ∀ F' L' z', LI w F' L' z' → GX p l e room_1 s m args below meth c Q 7 A D vcl ca ks lay ad (cells + 1) (slots + 6) 781 [(4, xI (nI i0)), (3, xR 60), (2, xR 40), (1, xR 0), (0, xR 61)] [] F' L') : GX p l e room_1 s m args below meth c Q 7 A D vcl ca ks lay ad cells slots 338 [(4, xI (nI i0)), (3, xR 60), (2, xR 40), (1, xR 0), (0, xR 61)] [] F L := by
  obtain ⟨X, hT, hst, HX, HM, H6, hnd, hf, hV, hb, hbA, hn⟩ := C
  obtain ⟨hK, hM, hq⟩ := hI
  have hc0 : cells ≤ room_1.cells ∧ slots ≤ room_1.slots := ⟨by omega, by omega⟩
  refine gx_aload_n X d_Lw_law_338 rfl rfl ?_
  refine gx_callV X d_Lw_law_339 mf_PP_edges lk_Lw_91 (Con.widen flt_sub (List.Pairwise.filter _ hnd) (c_PP_edges HX.flt hK)) (HX _ rfl).1 (HX _ rfl).2 rfl rfl rfl (Nat.le_of_ble_eq_true rfl) ⟨Nat.le_of_ble_eq_true rfl, Nat.le_of_ble_eq_true rfl⟩ ⟨rfl, rfl⟩ hc0 (fun r339 F339 L339 hp339 => ?_)
  obtain ⟨F1, L1, ⟨rfl, e1, -⟩, rfl, rfl⟩ := hp339
  rw [e1]
  refine gx_aload_n X d_Lw_law_342 rfl rfl ?_
  refine gx_callV X d_Lw_law_343 mf_Mo_edges lk_Lw_94 (Con.widen flt_sub (List.Pairwise.filter _ hnd) (m_edges HM.flt (MOK.afterX hM))) (HM _ rfl).1 (HM _ rfl).2 rfl rfl rfl (Nat.le_of_ble_eq_true rfl) ⟨Nat.le_of_ble_eq_true rfl, Nat.le_of_ble_eq_true rfl⟩ ⟨rfl, rfl⟩ hc0 (fun r343 F343 L343 hp343 => ?_)
  obtain ⟨F2, L2, ⟨rfl, -, u2⟩, rfl, rfl⟩ := hp343
  refine gx_icmp_eq X d_Lw_law_346 (tgt := 781) (by decide) (fun h346 => ?_) (fun h346 => ?_)
  · exact gx_wd (Nat.le_succ _) (Nat.le_add_right _ _) (gx_el (K _ _ _ ⟨(hK.inX HX).afterM, u2.inM HM, hq⟩) ⟨rfl, rfl, rfl, rfl, rfl, trivial⟩)
  · exact absurd rfl h346
set_option maxHeartbeats 4000000 in
theorem lw_predicates (C : LwC l p s m args meth c c0 A D ca ks lay ad w n xs) (hI : LI w F L z) (hi : i0 + 3 < n) (hc : cells + 1 ≤ room_1.cells ∧ slots + 6 ≤ room_1.slots) (K : ∀ F' L' z', LI w F' L' z' → GX p l e room_1 s m args below meth c Q 7 A D vcl ca ks lay ad (cells + 1) (slots + 6) 781 [(4, xI (nI i0)), (3, xR 60), (2, xR 40), (1, xR 0), (0, xR 61)] [] F' L') : GX p l e room_1 s m args below meth c Q 7 A D vcl ca ks lay ad cells slots 351 [(4, xI (nI i0)), (3, xR 60), (2, xR 40), (1, xR 0), (0, xR 61)] [] F L := by
  obtain ⟨X, hT, hst, HX, HM, H6, hnd, hf, hV, hb, hbA, hn⟩ := C
  obtain ⟨hK, hM, hq⟩ := hI
  have hc0 : cells ≤ room_1.cells ∧ slots ≤ room_1.slots := ⟨by omega, by omega⟩
  refine gx_aload_n X d_Lw_law_351 rfl rfl ?_
  refine gx_callV X d_Lw_law_352 mf_PP_predicates lk_Lw_95 (Con.widen flt_sub (List.Pairwise.filter _ hnd) (c_PP_predicates HX.flt hK)) (HX _ rfl).1 (HX _ rfl).2 rfl rfl rfl (Nat.le_of_ble_eq_true rfl) ⟨Nat.le_of_ble_eq_true rfl, Nat.le_of_ble_eq_true rfl⟩ ⟨rfl, rfl⟩ hc0 (fun r352 F352 L352 hp352 => ?_)
  obtain ⟨F1, L1, ⟨rfl, e1, -⟩, rfl, rfl⟩ := hp352
  rw [e1]
  refine gx_aload_n X d_Lw_law_355 rfl rfl ?_
  refine gx_callV X d_Lw_law_356 mf_Mo_predicates lk_Lw_98 (Con.widen flt_sub (List.Pairwise.filter _ hnd) (m_predicates HM.flt (MOK.afterX hM))) (HM _ rfl).1 (HM _ rfl).2 rfl rfl rfl (Nat.le_of_ble_eq_true rfl) ⟨Nat.le_of_ble_eq_true rfl, Nat.le_of_ble_eq_true rfl⟩ ⟨rfl, rfl⟩ hc0 (fun r356 F356 L356 hp356 => ?_)
  obtain ⟨F2, L2, ⟨rfl, -, u2⟩, rfl, rfl⟩ := hp356
  refine gx_icmp_eq X d_Lw_law_359 (tgt := 781) (by decide) (fun h359 => ?_) (fun h359 => ?_)
  · exact gx_wd (Nat.le_succ _) (Nat.le_add_right _ _) (gx_el (K _ _ _ ⟨(hK.inX HX).afterM, u2.inM HM, hq⟩) ⟨rfl, rfl, rfl, rfl, rfl, trivial⟩)
  · exact absurd rfl h359
set_option maxHeartbeats 4000000 in
theorem lw_nodes (C : LwC l p s m args meth c c0 A D ca ks lay ad w n xs) (hI : LI w F L z) (hi : i0 + 3 < n) (hc : cells + 1 ≤ room_1.cells ∧ slots + 6 ≤ room_1.slots) (K : ∀ F' L' z', LI w F' L' z' → GX p l e room_1 s m args below meth c Q 7 A D vcl ca ks lay ad (cells + 1) (slots + 6) 781 [(4, xI (nI i0)), (3, xR 60), (2, xR 40), (1, xR 0), (0, xR 61)] [] F' L') : GX p l e room_1 s m args below meth c Q 7 A D vcl ca ks lay ad cells slots 575 [(4, xI (nI i0)), (3, xR 60), (2, xR 40), (1, xR 0), (0, xR 61)] [] F L := by
  obtain ⟨X, hT, hst, HX, HM, H6, hnd, hf, hV, hb, hbA, hn⟩ := C
  obtain ⟨hK, hM, hq⟩ := hI
  have hc0 : cells ≤ room_1.cells ∧ slots ≤ room_1.slots := ⟨by omega, by omega⟩
  refine gx_aload_n X d_Lw_law_575 rfl rfl ?_
  refine gx_callV X d_Lw_law_576 mf_PP_nodes lk_Lw_110 (Con.widen flt_sub (List.Pairwise.filter _ hnd) (c_PP_nodes HX.flt hK)) (HX _ rfl).1 (HX _ rfl).2 rfl rfl rfl (Nat.le_of_ble_eq_true rfl) ⟨Nat.le_of_ble_eq_true rfl, Nat.le_of_ble_eq_true rfl⟩ ⟨rfl, rfl⟩ hc0 (fun r576 F576 L576 hp576 => ?_)
  obtain ⟨F1, L1, ⟨rfl, e1, -⟩, rfl, rfl⟩ := hp576
  rw [e1]
  refine gx_aload_n X d_Lw_law_579 rfl rfl ?_
  refine gx_callV X d_Lw_law_580 mf_Mo_nodes lk_Lw_113 (Con.widen flt_sub (List.Pairwise.filter _ hnd) (m_nodes HM.flt (MOK.afterX hM))) (HM _ rfl).1 (HM _ rfl).2 rfl rfl rfl (Nat.le_of_ble_eq_true rfl) ⟨Nat.le_of_ble_eq_true rfl, Nat.le_of_ble_eq_true rfl⟩ ⟨rfl, rfl⟩ hc0 (fun r580 F580 L580 hp580 => ?_)
  obtain ⟨F2, L2, ⟨rfl, -, u2⟩, rfl, rfl⟩ := hp580
  refine gx_icmp_eq X d_Lw_law_583 (tgt := 781) (by decide) (fun h583 => ?_) (fun h583 => ?_)
  · exact gx_wd (Nat.le_succ _) (Nat.le_add_right _ _) (gx_el (K _ _ _ ⟨(hK.inX HX).afterM, u2.inM HM, hq⟩) ⟨rfl, rfl, rfl, rfl, rfl, trivial⟩)
  · exact absurd rfl h583
set_option maxHeartbeats 4000000 in
theorem lw_length (C : LwC l p s m args meth c c0 A D ca ks lay ad w n xs) (hI : LI w F L z) (hi : i0 + 3 < n) (hc : cells + 1 ≤ room_1.cells ∧ slots + 6 ≤ room_1.slots) (K : ∀ F' L' z', LI w F' L' z' → GX p l e room_1 s m args below meth c Q 7 A D vcl ca ks lay ad (cells + 1) (slots + 6) 781 [(4, xI (nI i0)), (3, xR 60), (2, xR 40), (1, xR 0), (0, xR 61)] [] F' L') : GX p l e room_1 s m args below meth c Q 7 A D vcl ca ks lay ad cells slots 656 [(4, xI (nI i0)), (3, xR 60), (2, xR 40), (1, xR 0), (0, xR 61)] [] F L := by
  obtain ⟨X, hT, hst, HX, HM, H6, hnd, hf, hV, hb, hbA, hn⟩ := C
  obtain ⟨hK, hM, hq⟩ := hI
  have hc0 : cells ≤ room_1.cells ∧ slots ≤ room_1.slots := ⟨by omega, by omega⟩
  refine gx_aload_n X d_Lw_law_656 rfl rfl ?_
  refine gx_callV X d_Lw_law_657 mf_PP_length lk_Lw_117 (Con.widen flt_sub (List.Pairwise.filter _ hnd) (c_PP_length HX.flt hK)) (HX _ rfl).1 (HX _ rfl).2 rfl rfl rfl (Nat.le_of_ble_eq_true rfl) ⟨Nat.le_of_ble_eq_true rfl, Nat.le_of_ble_eq_true rfl⟩ ⟨rfl, rfl⟩ hc0 (fun r657 F657 L657 hp657 => ?_)
  obtain ⟨F1, L1, ⟨rfl, e1, -⟩, rfl, rfl⟩ := hp657
  rw [e1]
  refine gx_aload_n X d_Lw_law_660 rfl rfl ?_
  refine gx_callV X d_Lw_law_661 mf_Mo_length lk_Lw_120 (Con.widen flt_sub (List.Pairwise.filter _ hnd) (m_length HM.flt (MOK.afterX hM))) (HM _ rfl).1 (HM _ rfl).2 rfl rfl rfl (Nat.le_of_ble_eq_true rfl) ⟨Nat.le_of_ble_eq_true rfl, Nat.le_of_ble_eq_true rfl⟩ ⟨rfl, rfl⟩ hc0 (fun r661 F661 L661 hp661 => ?_)
  obtain ⟨F2, L2, ⟨rfl, -, u2⟩, rfl, rfl⟩ := hp661
  refine gx_icmp_eq X d_Lw_law_664 (tgt := 781) (by decide) (fun h664 => ?_) (fun h664 => ?_)
  · exact gx_wd (Nat.le_succ _) (Nat.le_add_right _ _) (gx_el (K _ _ _ ⟨(hK.inX HX).afterM, u2.inM HM, hq⟩) ⟨rfl, rfl, rfl, rfl, rfl, trivial⟩)
  · exact absurd rfl h664
set_option maxHeartbeats 4000000 in
theorem lw_edge (C : LwC l p s m args meth c c0 A D ca ks lay ad w n xs) (hI : LI w F L z) (hi : i0 + 3 < n) (hc : cells + 1 ≤ room_1.cells ∧ slots + 6 ≤ room_1.slots) (K : ∀ F' L' z', LI w F' L' z' → GX p l e room_1 s m args below meth c Q 7 A D vcl ca ks lay ad (cells + 1) (slots + 6) 781 [(4, xI (nI i0)), (3, xR 60), (2, xR 40), (1, xR 0), (0, xR 61)] [] F' L') : GX p l e room_1 s m args below meth c Q 7 A D vcl ca ks lay ad cells slots 170 [(4, xI (nI i0)), (3, xR 60), (2, xR 40), (1, xR 0), (0, xR 61)] [] F L := by
  obtain ⟨X, hT, hst, HX, HM, H6, hnd, hf, hV, hb, hbA, hn⟩ := C
  obtain ⟨hK, hM, hq⟩ := hI
  have hc0 : cells ≤ room_1.cells ∧ slots ≤ room_1.slots := ⟨by omega, by omega⟩
  have hc1 : cells + 1 ≤ room_1.cells ∧ slots + 6 ≤ room_1.slots := hc
  refine gx_aload_n X d_Lw_law_170 rfl rfl ?_
  refine gx_aload_n X d_Lw_law_171 rfl rfl ?_
  refine gx_callH X hT hst d_Lw_law_172 mh_edge lk_Lw_69 (h_edge HX H6 hnd hf hK ) rfl rfl (Nat.le_of_ble_eq_true rfl) ⟨Nat.le_of_ble_eq_true rfl, Nat.le_of_ble_eq_true rfl⟩ ⟨rfl, rfl⟩ hc (fun r172 F1 L1 hp172 => ?_)
  obtain ⟨k, v, z1, hk3, hs, rfl, hout, hK1, hF1, hL1⟩ := hp172
  refine gx_istore X d_Lw_law_175 (by decide) ?_
  refine gx_aload_n X d_Lw_law_177 rfl rfl ?_
  refine gx_callV X d_Lw_law_178 mf_Mo_edge lk_Lw_72 (Con.widen flt_sub (List.Pairwise.filter _ hnd) (q_edge HM.flt (hM.keep hF1 hL1) )) (HM _ rfl).1 (HM _ rfl).2 rfl rfl rfl (Nat.le_of_ble_eq_true rfl) ⟨Nat.le_of_ble_eq_true rfl, Nat.le_of_ble_eq_true rfl⟩ ⟨rfl, rfl⟩ hc1 (fun r178 F178 L178 hp178 => ?_)
  obtain ⟨F2, L2, hp2, rfl, rfl⟩ := hp178
  obtain ⟨rfl, h3, hM2⟩ := hp2 k v z1 hs
  have hLI : LI w (mF (ks.filter sM) F2 F1) (mL (ks.filter sM) L2 L1) z1 := ⟨hK1.afterM, hM2.inM HM, iq_E hs hq⟩
  refine gx_istore X d_Lw_law_181 (by decide) ?_
  refine gx_aload_n X d_Lw_law_183 rfl rfl ?_
  refine gx_callV X d_Lw_law_184 mf_Mo_thrown lk_Lw_73 (c_Mo_thrown HM) (HM _ rfl).1 (HM _ rfl).2 rfl rfl rfl (Nat.le_of_ble_eq_true rfl) ⟨Nat.le_of_ble_eq_true rfl, Nat.le_of_ble_eq_true rfl⟩ ⟨rfl, rfl⟩ hc1 (fun r184 F184 L184 hp184 => ?_)
  obtain ⟨rfl, rfl, rfl⟩ := hp184
  have h4 : mF (ks.filter sM) F2 F1 40 3 = nI k := by rw [mF_in HM rfl]; exact h3
  refine gx_top h4 ?_
  refine gx_iload X d_Lw_law_187 rfl ?_
  refine gx_icmp_eq X d_Lw_law_189 (tgt := 194) (by decide) (fun h189 => ?_) (fun h189 => ?_)
  · refine gx_iload X d_Lw_law_194 rfl ?_
    refine gx_if_ne X d_Lw_law_196 (tgt := 211) (by decide) (fun h196 => ?_) (fun h196 => ?_)
    · skip
      refine gx_goto X d_Lw_law_211 (tgt := 781) (by decide) ?_
      exact gx_el (K _ _ _ hLI) ⟨rfl, rfl, rfl, rfl, rfl, trivial⟩
    · have hk0 : k = 0 := k3_0 hk3 h196
      refine gx_aload_n X d_Lw_law_199 rfl rfl ?_
      refine gx_iconst X d_Lw_law_200 (v := nI 0) (by decide) ?_
      refine gx_lald X d_Lw_law_201 (H6 _ rfl).1 (H6 _ rfl).2 rfl (by omega) (by omega) ?_
      refine gx_topl (y := v.toInt64) (by rw [mL_out rfl]; exact hout hk0) ?_
      refine gx_iload X d_Lw_law_202 rfl ?_
      refine gx_i2l X d_Lw_law_204 rfl ?_
      refine gx_lcmp X d_Lw_law_205 ?_
      refine gx_top (lg_self _) ?_
      refine gx_if_eq X d_Lw_law_206 (tgt := 211) (by decide) (fun h206 => ?_) (fun h206 => ?_)
      · skip
        refine gx_goto X d_Lw_law_211 (tgt := 781) (by decide) ?_
        exact gx_el (K _ _ _ hLI) ⟨rfl, rfl, rfl, rfl, rfl, trivial⟩
      · exact absurd rfl h206
  · exact absurd rfl h189
set_option maxHeartbeats 4000000 in
theorem lw_predicate (C : LwC l p s m args meth c c0 A D ca ks lay ad w n xs) (hI : LI w F L z) (hi : i0 + 3 < n) (hc : cells + 1 ≤ room_1.cells ∧ slots + 6 ≤ room_1.slots) (K : ∀ F' L' z', LI w F' L' z' → GX p l e room_1 s m args below meth c Q 7 A D vcl ca ks lay ad (cells + 1) (slots + 6) 781 [(4, xI (nI i0)), (3, xR 60), (2, xR 40), (1, xR 0), (0, xR 61)] [] F' L') : GX p l e room_1 s m args below meth c Q 7 A D vcl ca ks lay ad cells slots 214 [(4, xI (nI i0)), (3, xR 60), (2, xR 40), (1, xR 0), (0, xR 61)] [] F L := by
  obtain ⟨X, hT, hst, HX, HM, H6, hnd, hf, hV, hb, hbA, hn⟩ := C
  obtain ⟨hK, hM, hq⟩ := hI
  have hc0 : cells ≤ room_1.cells ∧ slots ≤ room_1.slots := ⟨by omega, by omega⟩
  have hc1 : cells + 1 ≤ room_1.cells ∧ slots + 6 ≤ room_1.slots := hc
  refine gx_aload_n X d_Lw_law_214 rfl rfl ?_
  refine gx_aload_n X d_Lw_law_215 rfl rfl ?_
  refine gx_callH X hT hst d_Lw_law_216 mh_predicate lk_Lw_76 (h_predicate HX H6 hnd hf hK ) rfl rfl (Nat.le_of_ble_eq_true rfl) ⟨Nat.le_of_ble_eq_true rfl, Nat.le_of_ble_eq_true rfl⟩ ⟨rfl, rfl⟩ hc (fun r216 F1 L1 hp216 => ?_)
  obtain ⟨k, v, z1, hk3, hs, rfl, hout, hK1, hF1, hL1⟩ := hp216
  refine gx_istore X d_Lw_law_219 (by decide) ?_
  refine gx_aload_n X d_Lw_law_221 rfl rfl ?_
  refine gx_callV X d_Lw_law_222 mf_Mo_predicate lk_Lw_78 (Con.widen flt_sub (List.Pairwise.filter _ hnd) (q_predicate HM.flt (hM.keep hF1 hL1) )) (HM _ rfl).1 (HM _ rfl).2 rfl rfl rfl (Nat.le_of_ble_eq_true rfl) ⟨Nat.le_of_ble_eq_true rfl, Nat.le_of_ble_eq_true rfl⟩ ⟨rfl, rfl⟩ hc1 (fun r222 F222 L222 hp222 => ?_)
  obtain ⟨F2, L2, hp2, rfl, rfl⟩ := hp222
  obtain ⟨rfl, h3, hM2⟩ := hp2 k v z1 hs
  have hLI : LI w (mF (ks.filter sM) F2 F1) (mL (ks.filter sM) L2 L1) z1 := ⟨hK1.afterM, hM2.inM HM, iq_P hs hq⟩
  refine gx_istore X d_Lw_law_225 (by decide) ?_
  refine gx_aload_n X d_Lw_law_227 rfl rfl ?_
  refine gx_callV X d_Lw_law_228 mf_Mo_thrown lk_Lw_73 (c_Mo_thrown HM) (HM _ rfl).1 (HM _ rfl).2 rfl rfl rfl (Nat.le_of_ble_eq_true rfl) ⟨Nat.le_of_ble_eq_true rfl, Nat.le_of_ble_eq_true rfl⟩ ⟨rfl, rfl⟩ hc1 (fun r228 F228 L228 hp228 => ?_)
  obtain ⟨rfl, rfl, rfl⟩ := hp228
  have h4 : mF (ks.filter sM) F2 F1 40 3 = nI k := by rw [mF_in HM rfl]; exact h3
  refine gx_top h4 ?_
  refine gx_iload X d_Lw_law_231 rfl ?_
  refine gx_icmp_eq X d_Lw_law_233 (tgt := 238) (by decide) (fun h233 => ?_) (fun h233 => ?_)
  · refine gx_iload X d_Lw_law_238 rfl ?_
    refine gx_if_ne X d_Lw_law_240 (tgt := 255) (by decide) (fun h240 => ?_) (fun h240 => ?_)
    · skip
      refine gx_goto X d_Lw_law_255 (tgt := 781) (by decide) ?_
      exact gx_el (K _ _ _ hLI) ⟨rfl, rfl, rfl, rfl, rfl, trivial⟩
    · have hk0 : k = 0 := k3_0 hk3 h240
      refine gx_aload_n X d_Lw_law_243 rfl rfl ?_
      refine gx_iconst X d_Lw_law_244 (v := nI 0) (by decide) ?_
      refine gx_lald X d_Lw_law_245 (H6 _ rfl).1 (H6 _ rfl).2 rfl (by omega) (by omega) ?_
      refine gx_topl (y := v.toInt64) (by rw [mL_out rfl]; exact hout hk0) ?_
      refine gx_iload X d_Lw_law_246 rfl ?_
      refine gx_i2l X d_Lw_law_248 rfl ?_
      refine gx_lcmp X d_Lw_law_249 ?_
      refine gx_top (lg_self _) ?_
      refine gx_if_eq X d_Lw_law_250 (tgt := 255) (by decide) (fun h250 => ?_) (fun h250 => ?_)
      · skip
        refine gx_goto X d_Lw_law_255 (tgt := 781) (by decide) ?_
        exact gx_el (K _ _ _ hLI) ⟨rfl, rfl, rfl, rfl, rfl, trivial⟩
      · exact absurd rfl h250
  · exact absurd rfl h233
set_option maxHeartbeats 4000000 in
theorem lw_prove (C : LwC l p s m args meth c c0 A D ca ks lay ad w n xs) (hI : LI w F L z) (hi : i0 + 3 < n) (hc : cells + 1 ≤ room_1.cells ∧ slots + 6 ≤ room_1.slots) (K : ∀ F' L' z', LI w F' L' z' → GX p l e room_1 s m args below meth c Q 7 A D vcl ca ks lay ad (cells + 1) (slots + 6) 781 [(4, xI (nI i0)), (3, xR 60), (2, xR 40), (1, xR 0), (0, xR 61)] [] F' L') : GX p l e room_1 s m args below meth c Q 7 A D vcl ca ks lay ad cells slots 269 [(4, xI (nI i0)), (3, xR 60), (2, xR 40), (1, xR 0), (0, xR 61)] [] F L := by
  obtain ⟨X, hT, hst, HX, HM, H6, hnd, hf, hV, hb, hbA, hn⟩ := C
  obtain ⟨hK, hM, hq⟩ := hI
  have hc0 : cells ≤ room_1.cells ∧ slots ≤ room_1.slots := ⟨by omega, by omega⟩
  have hc1 : cells + 1 ≤ room_1.cells ∧ slots + 6 ≤ room_1.slots := hc
  refine gx_aload_n X d_Lw_law_269 rfl rfl ?_
  refine gx_aload_n X d_Lw_law_270 rfl rfl ?_
  refine gx_iload X d_Lw_law_271 rfl ?_
  refine gx_iconst X d_Lw_law_273 (v := nI 1) (by decide) ?_
  refine gx_iadd X d_Lw_law_274 ?_
  refine gx_sld X hV hb hbA d_Lw_law_275 (nI_add _ _) (by omega) hn ?_
  refine gx_aload_n X d_Lw_law_276 rfl rfl ?_
  refine gx_callH X hT hst d_Lw_law_277 mh_prove lk_Lw_83 (h_prove HX H6 hnd hf hK _) rfl rfl (Nat.le_of_ble_eq_true rfl) ⟨Nat.le_of_ble_eq_true rfl, Nat.le_of_ble_eq_true rfl⟩ ⟨rfl, rfl⟩ hc (fun r277 F1 L1 hp277 => ?_)
  obtain ⟨k, v, z1, hk3, hs, rfl, hout, hK1, hF1, hL1⟩ := hp277
  refine gx_istore X d_Lw_law_280 (by decide) ?_
  refine gx_aload_n X d_Lw_law_282 rfl rfl ?_
  refine gx_aload_n X d_Lw_law_283 rfl rfl ?_
  refine gx_iload X d_Lw_law_284 rfl ?_
  refine gx_iconst X d_Lw_law_286 (v := nI 1) (by decide) ?_
  refine gx_iadd X d_Lw_law_287 ?_
  refine gx_sld X hV hb hbA d_Lw_law_288 (nI_add _ _) (by omega) hn ?_
  refine gx_callV X d_Lw_law_289 mf_Mo_prove lk_Lw_86 (Con.widen flt_sub (List.Pairwise.filter _ hnd) (q_prove HM.flt (hM.keep hF1 hL1) _)) (HM _ rfl).1 (HM _ rfl).2 rfl rfl rfl (Nat.le_of_ble_eq_true rfl) ⟨Nat.le_of_ble_eq_true rfl, Nat.le_of_ble_eq_true rfl⟩ ⟨rfl, rfl⟩ hc1 (fun r289 F289 L289 hp289 => ?_)
  obtain ⟨F2, L2, hp2, rfl, rfl⟩ := hp289
  obtain ⟨rfl, h3, hM2⟩ := hp2 k v z1 hs
  have hLI : LI w (mF (ks.filter sM) F2 F1) (mL (ks.filter sM) L2 L1) z1 := ⟨hK1.afterM, hM2.inM HM, iq_V hs hq⟩
  refine gx_istore X d_Lw_law_292 (by decide) ?_
  refine gx_aload_n X d_Lw_law_294 rfl rfl ?_
  refine gx_callV X d_Lw_law_295 mf_Mo_thrown lk_Lw_73 (c_Mo_thrown HM) (HM _ rfl).1 (HM _ rfl).2 rfl rfl rfl (Nat.le_of_ble_eq_true rfl) ⟨Nat.le_of_ble_eq_true rfl, Nat.le_of_ble_eq_true rfl⟩ ⟨rfl, rfl⟩ hc1 (fun r295 F295 L295 hp295 => ?_)
  obtain ⟨rfl, rfl, rfl⟩ := hp295
  have h4 : mF (ks.filter sM) F2 F1 40 3 = nI k := by rw [mF_in HM rfl]; exact h3
  refine gx_top h4 ?_
  refine gx_iload X d_Lw_law_298 rfl ?_
  refine gx_icmp_eq X d_Lw_law_300 (tgt := 305) (by decide) (fun h300 => ?_) (fun h300 => ?_)
  · refine gx_iload X d_Lw_law_305 rfl ?_
    refine gx_if_ne X d_Lw_law_307 (tgt := 322) (by decide) (fun h307 => ?_) (fun h307 => ?_)
    · skip
      refine gx_goto X d_Lw_law_322 (tgt := 781) (by decide) ?_
      exact gx_el (K _ _ _ hLI) ⟨rfl, rfl, rfl, rfl, rfl, trivial⟩
    · have hk0 : k = 0 := k3_0 hk3 h307
      refine gx_aload_n X d_Lw_law_310 rfl rfl ?_
      refine gx_iconst X d_Lw_law_311 (v := nI 0) (by decide) ?_
      refine gx_lald X d_Lw_law_312 (H6 _ rfl).1 (H6 _ rfl).2 rfl (by omega) (by omega) ?_
      refine gx_topl (y := v.toInt64) (by rw [mL_out rfl]; exact hout hk0) ?_
      refine gx_iload X d_Lw_law_313 rfl ?_
      refine gx_i2l X d_Lw_law_315 rfl ?_
      refine gx_lcmp X d_Lw_law_316 ?_
      refine gx_top (lg_self _) ?_
      refine gx_if_eq X d_Lw_law_317 (tgt := 322) (by decide) (fun h317 => ?_) (fun h317 => ?_)
      · skip
        refine gx_goto X d_Lw_law_322 (tgt := 781) (by decide) ?_
        exact gx_el (K _ _ _ hLI) ⟨rfl, rfl, rfl, rfl, rfl, trivial⟩
      · exact absurd rfl h317
  · exact absurd rfl h300
set_option maxHeartbeats 4000000 in
theorem lw_holds (C : LwC l p s m args meth c c0 A D ca ks lay ad w n xs) (hI : LI w F L z) (hi : i0 + 3 < n) (hc : cells + 1 ≤ room_1.cells ∧ slots + 6 ≤ room_1.slots) (K : ∀ F' L' z', LI w F' L' z' → GX p l e room_1 s m args below meth c Q 7 A D vcl ca ks lay ad (cells + 1) (slots + 6) 781 [(4, xI (nI i0)), (3, xR 60), (2, xR 40), (1, xR 0), (0, xR 61)] [] F' L') : GX p l e room_1 s m args below meth c Q 7 A D vcl ca ks lay ad cells slots 364 [(4, xI (nI i0)), (3, xR 60), (2, xR 40), (1, xR 0), (0, xR 61)] [] F L := by
  obtain ⟨X, hT, hst, HX, HM, H6, hnd, hf, hV, hb, hbA, hn⟩ := C
  obtain ⟨hK, hM, hq⟩ := hI
  have hc0 : cells ≤ room_1.cells ∧ slots ≤ room_1.slots := ⟨by omega, by omega⟩
  have hc1 : cells + 1 ≤ room_1.cells ∧ slots + 6 ≤ room_1.slots := hc
  refine gx_aload_n X d_Lw_law_364 rfl rfl ?_
  refine gx_aload_n X d_Lw_law_365 rfl rfl ?_
  refine gx_iload X d_Lw_law_366 rfl ?_
  refine gx_iconst X d_Lw_law_368 (v := nI 1) (by decide) ?_
  refine gx_iadd X d_Lw_law_369 ?_
  refine gx_sld X hV hb hbA d_Lw_law_370 (nI_add _ _) (by omega) hn ?_
  refine gx_aload_n X d_Lw_law_371 rfl rfl ?_
  refine gx_iload X d_Lw_law_372 rfl ?_
  refine gx_iconst X d_Lw_law_374 (v := nI 2) (by decide) ?_
  refine gx_iadd X d_Lw_law_375 ?_
  refine gx_sld X hV hb hbA d_Lw_law_376 (nI_add _ _) (by omega) hn ?_
  refine gx_aload_n X d_Lw_law_377 rfl rfl ?_
  refine gx_callH X hT hst d_Lw_law_378 mh_holds lk_Lw_99 (h_holds HX H6 hnd hf hK _ _) rfl rfl (Nat.le_of_ble_eq_true rfl) ⟨Nat.le_of_ble_eq_true rfl, Nat.le_of_ble_eq_true rfl⟩ ⟨rfl, rfl⟩ hc (fun r378 F1 L1 hp378 => ?_)
  obtain ⟨k, v, z1, hk3, hs, rfl, hout, hK1, hF1, hL1⟩ := hp378
  refine gx_istore X d_Lw_law_381 (by decide) ?_
  refine gx_aload_n X d_Lw_law_383 rfl rfl ?_
  refine gx_aload_n X d_Lw_law_384 rfl rfl ?_
  refine gx_iload X d_Lw_law_385 rfl ?_
  refine gx_iconst X d_Lw_law_387 (v := nI 1) (by decide) ?_
  refine gx_iadd X d_Lw_law_388 ?_
  refine gx_sld X hV hb hbA d_Lw_law_389 (nI_add _ _) (by omega) hn ?_
  refine gx_aload_n X d_Lw_law_390 rfl rfl ?_
  refine gx_iload X d_Lw_law_391 rfl ?_
  refine gx_iconst X d_Lw_law_393 (v := nI 2) (by decide) ?_
  refine gx_iadd X d_Lw_law_394 ?_
  refine gx_sld X hV hb hbA d_Lw_law_395 (nI_add _ _) (by omega) hn ?_
  refine gx_callV X d_Lw_law_396 mf_Mo_holds lk_Lw_102 (Con.widen flt_sub (List.Pairwise.filter _ hnd) (q_holds HM.flt (hM.keep hF1 hL1) _ _)) (HM _ rfl).1 (HM _ rfl).2 rfl rfl rfl (Nat.le_of_ble_eq_true rfl) ⟨Nat.le_of_ble_eq_true rfl, Nat.le_of_ble_eq_true rfl⟩ ⟨rfl, rfl⟩ hc1 (fun r396 F396 L396 hp396 => ?_)
  obtain ⟨F2, L2, hp2, rfl, rfl⟩ := hp396
  obtain ⟨rfl, h3, hM2⟩ := hp2 k v z1 hs
  have hLI : LI w (mF (ks.filter sM) F2 F1) (mL (ks.filter sM) L2 L1) z1 := ⟨hK1.afterM, hM2.inM HM, (by rw [hs.1]; exact hq)⟩
  refine gx_istore X d_Lw_law_399 (by decide) ?_
  refine gx_aload_n X d_Lw_law_401 rfl rfl ?_
  refine gx_callV X d_Lw_law_402 mf_Mo_thrown lk_Lw_73 (c_Mo_thrown HM) (HM _ rfl).1 (HM _ rfl).2 rfl rfl rfl (Nat.le_of_ble_eq_true rfl) ⟨Nat.le_of_ble_eq_true rfl, Nat.le_of_ble_eq_true rfl⟩ ⟨rfl, rfl⟩ hc1 (fun r402 F402 L402 hp402 => ?_)
  obtain ⟨rfl, rfl, rfl⟩ := hp402
  have h4 : mF (ks.filter sM) F2 F1 40 3 = nI k := by rw [mF_in HM rfl]; exact h3
  refine gx_top h4 ?_
  refine gx_iload X d_Lw_law_405 rfl ?_
  refine gx_icmp_eq X d_Lw_law_407 (tgt := 412) (by decide) (fun h407 => ?_) (fun h407 => ?_)
  · refine gx_iload X d_Lw_law_412 rfl ?_
    refine gx_if_ne X d_Lw_law_414 (tgt := 436) (by decide) (fun h414 => ?_) (fun h414 => ?_)
    · skip
      refine gx_goto X d_Lw_law_436 (tgt := 781) (by decide) ?_
      exact gx_el (K _ _ _ hLI) ⟨rfl, rfl, rfl, rfl, rfl, trivial⟩
    · have hk0 : k = 0 := k3_0 hk3 h414
      refine gx_aload_n X d_Lw_law_417 rfl rfl ?_
      refine gx_iconst X d_Lw_law_418 (v := nI 0) (by decide) ?_
      refine gx_lald X d_Lw_law_419 (H6 _ rfl).1 (H6 _ rfl).2 rfl (by omega) (by omega) ?_
      refine gx_topl (y := v.toInt64) (by rw [mL_out rfl]; exact hout hk0) ?_
      refine gx_iload X d_Lw_law_420 rfl ?_
      refine gx_if_eq X d_Lw_law_422 (tgt := 429) (by decide) (fun h422 => ?_) (fun h422 => ?_)
      · have hv : v = 0 := h422
        refine gx_lconst X d_Lw_law_429 (v := 0) (by decide) ?_
        refine gx_topl (y := v.toInt64) (by rw [hv]; rfl) ?_
        refine gx_lcmp X d_Lw_law_430 ?_
        refine gx_top (lg_self _) ?_
        refine gx_if_eq X d_Lw_law_431 (tgt := 436) (by decide) (fun h431 => ?_) (fun h431 => ?_)
        · skip
          refine gx_goto X d_Lw_law_436 (tgt := 781) (by decide) ?_
          exact gx_el (K _ _ _ hLI) ⟨rfl, rfl, rfl, rfl, rfl, trivial⟩
        · exact absurd rfl h431
      · have hv : v = 0 ∨ v = 1 := SpH_01 hs
        have hv : v = 1 := hv.resolve_left h422
        refine gx_lconst X d_Lw_law_425 (v := 1) (by decide) ?_
        refine gx_goto X d_Lw_law_426 (tgt := 430) (by decide) ?_
        refine gx_topl (y := v.toInt64) (by rw [hv]; rfl) ?_
        refine gx_lcmp X d_Lw_law_430 ?_
        refine gx_top (lg_self _) ?_
        refine gx_if_eq X d_Lw_law_431 (tgt := 436) (by decide) (fun h431 => ?_) (fun h431 => ?_)
        · skip
          refine gx_goto X d_Lw_law_436 (tgt := 781) (by decide) ?_
          exact gx_el (K _ _ _ hLI) ⟨rfl, rfl, rfl, rfl, rfl, trivial⟩
        · exact absurd rfl h431
  · exact absurd rfl h407
set_option maxHeartbeats 4000000 in
theorem lw_signature (C : LwC l p s m args meth c c0 A D ca ks lay ad w n xs) (hI : LI w F L z) (hi : i0 + 3 < n) (hc : cells + 1 ≤ room_1.cells ∧ slots + 6 ≤ room_1.slots) (K : ∀ F' L' z', LI w F' L' z' → GX p l e room_1 s m args below meth c Q 7 A D vcl ca ks lay ad (cells + 1) (slots + 6) 781 [(4, xI (nI i0)), (3, xR 60), (2, xR 40), (1, xR 0), (0, xR 61)] [] F' L') : GX p l e room_1 s m args below meth c Q 7 A D vcl ca ks lay ad cells slots 439 [(4, xI (nI i0)), (3, xR 60), (2, xR 40), (1, xR 0), (0, xR 61)] [] F L := by
  obtain ⟨X, hT, hst, HX, HM, H6, hnd, hf, hV, hb, hbA, hn⟩ := C
  obtain ⟨hK, hM, hq⟩ := hI
  have hc0 : cells ≤ room_1.cells ∧ slots ≤ room_1.slots := ⟨by omega, by omega⟩
  have hc1 : cells + 1 ≤ room_1.cells ∧ slots + 6 ≤ room_1.slots := hc
  refine gx_aload_n X d_Lw_law_439 rfl rfl ?_
  refine gx_aload_n X d_Lw_law_440 rfl rfl ?_
  refine gx_iload X d_Lw_law_441 rfl ?_
  refine gx_iconst X d_Lw_law_443 (v := nI 1) (by decide) ?_
  refine gx_iadd X d_Lw_law_444 ?_
  refine gx_sld X hV hb hbA d_Lw_law_445 (nI_add _ _) (by omega) hn ?_
  refine gx_aload_n X d_Lw_law_446 rfl rfl ?_
  refine gx_callH X hT hst d_Lw_law_447 mh_signature lk_Lw_103 (h_signature HX H6 hnd hf hK _) rfl rfl (Nat.le_of_ble_eq_true rfl) ⟨Nat.le_of_ble_eq_true rfl, Nat.le_of_ble_eq_true rfl⟩ ⟨rfl, rfl⟩ hc (fun r447 F1 L1 hp447 => ?_)
  obtain ⟨k, v, z1, hk3, hs, rfl, hout, hK1, hF1, hL1⟩ := hp447
  refine gx_istore X d_Lw_law_450 (by decide) ?_
  refine gx_aload_n X d_Lw_law_452 rfl rfl ?_
  refine gx_aload_n X d_Lw_law_453 rfl rfl ?_
  refine gx_iload X d_Lw_law_454 rfl ?_
  refine gx_iconst X d_Lw_law_456 (v := nI 1) (by decide) ?_
  refine gx_iadd X d_Lw_law_457 ?_
  refine gx_sld X hV hb hbA d_Lw_law_458 (nI_add _ _) (by omega) hn ?_
  refine gx_callV X d_Lw_law_459 mf_Mo_signature lk_Lw_105 (Con.widen flt_sub (List.Pairwise.filter _ hnd) (q_signature HM.flt (hM.keep hF1 hL1) _)) (HM _ rfl).1 (HM _ rfl).2 rfl rfl rfl (Nat.le_of_ble_eq_true rfl) ⟨Nat.le_of_ble_eq_true rfl, Nat.le_of_ble_eq_true rfl⟩ ⟨rfl, rfl⟩ hc1 (fun r459 F459 L459 hp459 => ?_)
  obtain ⟨F2, L2, hp2, rfl, rfl⟩ := hp459
  obtain ⟨rfl, h3, hM2⟩ := hp2 k v z1 hs
  have hLI : LI w (mF (ks.filter sM) F2 F1) (mL (ks.filter sM) L2 L1) z1 := ⟨hK1.afterM, hM2.inM HM, (by rw [hs.1]; exact hq)⟩
  refine gx_istore X d_Lw_law_462 (by decide) ?_
  refine gx_aload_n X d_Lw_law_464 rfl rfl ?_
  refine gx_callV X d_Lw_law_465 mf_Mo_thrown lk_Lw_73 (c_Mo_thrown HM) (HM _ rfl).1 (HM _ rfl).2 rfl rfl rfl (Nat.le_of_ble_eq_true rfl) ⟨Nat.le_of_ble_eq_true rfl, Nat.le_of_ble_eq_true rfl⟩ ⟨rfl, rfl⟩ hc1 (fun r465 F465 L465 hp465 => ?_)
  obtain ⟨rfl, rfl, rfl⟩ := hp465
  have h4 : mF (ks.filter sM) F2 F1 40 3 = nI k := by rw [mF_in HM rfl]; exact h3
  refine gx_top h4 ?_
  refine gx_iload X d_Lw_law_468 rfl ?_
  refine gx_icmp_eq X d_Lw_law_470 (tgt := 475) (by decide) (fun h470 => ?_) (fun h470 => ?_)
  · refine gx_iload X d_Lw_law_475 rfl ?_
    refine gx_if_ne X d_Lw_law_477 (tgt := 492) (by decide) (fun h477 => ?_) (fun h477 => ?_)
    · skip
      refine gx_goto X d_Lw_law_492 (tgt := 781) (by decide) ?_
      exact gx_el (K _ _ _ hLI) ⟨rfl, rfl, rfl, rfl, rfl, trivial⟩
    · have hk0 : k = 0 := k3_0 hk3 h477
      refine gx_aload_n X d_Lw_law_480 rfl rfl ?_
      refine gx_iconst X d_Lw_law_481 (v := nI 0) (by decide) ?_
      refine gx_lald X d_Lw_law_482 (H6 _ rfl).1 (H6 _ rfl).2 rfl (by omega) (by omega) ?_
      refine gx_topl (y := v.toInt64) (by rw [mL_out rfl]; exact hout hk0) ?_
      refine gx_iload X d_Lw_law_483 rfl ?_
      refine gx_i2l X d_Lw_law_485 rfl ?_
      refine gx_lcmp X d_Lw_law_486 ?_
      refine gx_top (lg_self _) ?_
      refine gx_if_eq X d_Lw_law_487 (tgt := 492) (by decide) (fun h487 => ?_) (fun h487 => ?_)
      · skip
        refine gx_goto X d_Lw_law_492 (tgt := 781) (by decide) ?_
        exact gx_el (K _ _ _ hLI) ⟨rfl, rfl, rfl, rfl, rfl, trivial⟩
      · exact absurd rfl h487
  · exact absurd rfl h470
set_option maxHeartbeats 4000000 in
theorem lw_follow (C : LwC l p s m args meth c c0 A D ca ks lay ad w n xs) (hI : LI w F L z) (hi : i0 + 3 < n) (hc : cells + 1 ≤ room_1.cells ∧ slots + 6 ≤ room_1.slots) (K : ∀ F' L' z', LI w F' L' z' → GX p l e room_1 s m args below meth c Q 7 A D vcl ca ks lay ad (cells + 1) (slots + 6) 781 [(4, xI (nI i0)), (3, xR 60), (2, xR 40), (1, xR 0), (0, xR 61)] [] F' L') : GX p l e room_1 s m args below meth c Q 7 A D vcl ca ks lay ad cells slots 495 [(4, xI (nI i0)), (3, xR 60), (2, xR 40), (1, xR 0), (0, xR 61)] [] F L := by
  obtain ⟨X, hT, hst, HX, HM, H6, hnd, hf, hV, hb, hbA, hn⟩ := C
  obtain ⟨hK, hM, hq⟩ := hI
  have hc0 : cells ≤ room_1.cells ∧ slots ≤ room_1.slots := ⟨by omega, by omega⟩
  have hc1 : cells + 1 ≤ room_1.cells ∧ slots + 6 ≤ room_1.slots := hc
  refine gx_aload_n X d_Lw_law_495 rfl rfl ?_
  refine gx_aload_n X d_Lw_law_496 rfl rfl ?_
  refine gx_iload X d_Lw_law_497 rfl ?_
  refine gx_iconst X d_Lw_law_499 (v := nI 1) (by decide) ?_
  refine gx_iadd X d_Lw_law_500 ?_
  refine gx_sld X hV hb hbA d_Lw_law_501 (nI_add _ _) (by omega) hn ?_
  refine gx_aload_n X d_Lw_law_502 rfl rfl ?_
  refine gx_iload X d_Lw_law_503 rfl ?_
  refine gx_iconst X d_Lw_law_505 (v := nI 2) (by decide) ?_
  refine gx_iadd X d_Lw_law_506 ?_
  refine gx_sld X hV hb hbA d_Lw_law_507 (nI_add _ _) (by omega) hn ?_
  refine gx_aload_n X d_Lw_law_508 rfl rfl ?_
  refine gx_iload X d_Lw_law_509 rfl ?_
  refine gx_iconst X d_Lw_law_511 (v := nI 3) (by decide) ?_
  refine gx_iadd X d_Lw_law_512 ?_
  refine gx_sld X hV hb hbA d_Lw_law_513 (nI_add _ _) (by omega) hn ?_
  refine gx_aload_n X d_Lw_law_514 rfl rfl ?_
  refine gx_callH X hT hst d_Lw_law_515 mh_follow lk_Lw_106 (h_follow HX H6 hnd hf hK _ _ _) rfl rfl (Nat.le_of_ble_eq_true rfl) ⟨Nat.le_of_ble_eq_true rfl, Nat.le_of_ble_eq_true rfl⟩ ⟨rfl, rfl⟩ hc (fun r515 F1 L1 hp515 => ?_)
  obtain ⟨k, v, z1, hk3, hs, rfl, hout, hK1, hF1, hL1⟩ := hp515
  refine gx_istore X d_Lw_law_518 (by decide) ?_
  refine gx_aload_n X d_Lw_law_520 rfl rfl ?_
  refine gx_aload_n X d_Lw_law_521 rfl rfl ?_
  refine gx_iload X d_Lw_law_522 rfl ?_
  refine gx_iconst X d_Lw_law_524 (v := nI 1) (by decide) ?_
  refine gx_iadd X d_Lw_law_525 ?_
  refine gx_sld X hV hb hbA d_Lw_law_526 (nI_add _ _) (by omega) hn ?_
  refine gx_aload_n X d_Lw_law_527 rfl rfl ?_
  refine gx_iload X d_Lw_law_528 rfl ?_
  refine gx_iconst X d_Lw_law_530 (v := nI 2) (by decide) ?_
  refine gx_iadd X d_Lw_law_531 ?_
  refine gx_sld X hV hb hbA d_Lw_law_532 (nI_add _ _) (by omega) hn ?_
  refine gx_aload_n X d_Lw_law_533 rfl rfl ?_
  refine gx_iload X d_Lw_law_534 rfl ?_
  refine gx_iconst X d_Lw_law_536 (v := nI 3) (by decide) ?_
  refine gx_iadd X d_Lw_law_537 ?_
  refine gx_sld X hV hb hbA d_Lw_law_538 (nI_add _ _) (by omega) hn ?_
  refine gx_callV X d_Lw_law_539 mf_Mo_follow lk_Lw_109 (Con.widen flt_sub (List.Pairwise.filter _ hnd) (q_follow HM.flt (hM.keep hF1 hL1) _ _ _)) (HM _ rfl).1 (HM _ rfl).2 rfl rfl rfl (Nat.le_of_ble_eq_true rfl) ⟨Nat.le_of_ble_eq_true rfl, Nat.le_of_ble_eq_true rfl⟩ ⟨rfl, rfl⟩ hc1 (fun r539 F539 L539 hp539 => ?_)
  obtain ⟨F2, L2, hp2, rfl, rfl⟩ := hp539
  obtain ⟨rfl, h3, hM2⟩ := hp2 k v z1 hs
  have hLI : LI w (mF (ks.filter sM) F2 F1) (mL (ks.filter sM) L2 L1) z1 := ⟨hK1.afterM, hM2.inM HM, (by rw [hs.1]; exact hq)⟩
  refine gx_istore X d_Lw_law_542 (by decide) ?_
  refine gx_aload_n X d_Lw_law_544 rfl rfl ?_
  refine gx_callV X d_Lw_law_545 mf_Mo_thrown lk_Lw_73 (c_Mo_thrown HM) (HM _ rfl).1 (HM _ rfl).2 rfl rfl rfl (Nat.le_of_ble_eq_true rfl) ⟨Nat.le_of_ble_eq_true rfl, Nat.le_of_ble_eq_true rfl⟩ ⟨rfl, rfl⟩ hc1 (fun r545 F545 L545 hp545 => ?_)
  obtain ⟨rfl, rfl, rfl⟩ := hp545
  have h4 : mF (ks.filter sM) F2 F1 40 3 = nI k := by rw [mF_in HM rfl]; exact h3
  refine gx_top h4 ?_
  refine gx_iload X d_Lw_law_548 rfl ?_
  refine gx_icmp_eq X d_Lw_law_550 (tgt := 555) (by decide) (fun h550 => ?_) (fun h550 => ?_)
  · refine gx_iload X d_Lw_law_555 rfl ?_
    refine gx_if_ne X d_Lw_law_557 (tgt := 572) (by decide) (fun h557 => ?_) (fun h557 => ?_)
    · skip
      refine gx_goto X d_Lw_law_572 (tgt := 781) (by decide) ?_
      exact gx_el (K _ _ _ hLI) ⟨rfl, rfl, rfl, rfl, rfl, trivial⟩
    · have hk0 : k = 0 := k3_0 hk3 h557
      refine gx_aload_n X d_Lw_law_560 rfl rfl ?_
      refine gx_iconst X d_Lw_law_561 (v := nI 0) (by decide) ?_
      refine gx_lald X d_Lw_law_562 (H6 _ rfl).1 (H6 _ rfl).2 rfl (by omega) (by omega) ?_
      refine gx_topl (y := v.toInt64) (by rw [mL_out rfl]; exact hout hk0) ?_
      refine gx_iload X d_Lw_law_563 rfl ?_
      refine gx_i2l X d_Lw_law_565 rfl ?_
      refine gx_lcmp X d_Lw_law_566 ?_
      refine gx_top (lg_self _) ?_
      refine gx_if_eq X d_Lw_law_567 (tgt := 572) (by decide) (fun h567 => ?_) (fun h567 => ?_)
      · skip
        refine gx_goto X d_Lw_law_572 (tgt := 781) (by decide) ?_
        exact gx_el (K _ _ _ hLI) ⟨rfl, rfl, rfl, rfl, rfl, trivial⟩
      · exact absurd rfl h567
  · exact absurd rfl h550
set_option maxHeartbeats 4000000 in
theorem lw_node (C : LwC l p s m args meth c c0 A D ca ks lay ad w n xs) (hI : LI w F L z) (hi : i0 + 3 < n) (hc : cells + 1 ≤ room_1.cells ∧ slots + 6 ≤ room_1.slots) (K : ∀ F' L' z', LI w F' L' z' → GX p l e room_1 s m args below meth c Q 7 A D vcl ca ks lay ad (cells + 1) (slots + 6) 781 [(4, xI (nI i0)), (3, xR 60), (2, xR 40), (1, xR 0), (0, xR 61)] [] F' L') : GX p l e room_1 s m args below meth c Q 7 A D vcl ca ks lay ad cells slots 588 [(4, xI (nI i0)), (3, xR 60), (2, xR 40), (1, xR 0), (0, xR 61)] [] F L := by
  obtain ⟨X, hT, hst, HX, HM, H6, hnd, hf, hV, hb, hbA, hn⟩ := C
  obtain ⟨hK, hM, hq⟩ := hI
  have hc0 : cells ≤ room_1.cells ∧ slots ≤ room_1.slots := ⟨by omega, by omega⟩
  have hc1 : cells + 1 ≤ room_1.cells ∧ slots + 6 ≤ room_1.slots := hc
  refine gx_aload_n X d_Lw_law_588 rfl rfl ?_
  refine gx_aload_n X d_Lw_law_589 rfl rfl ?_
  refine gx_iload X d_Lw_law_590 rfl ?_
  refine gx_iconst X d_Lw_law_592 (v := nI 1) (by decide) ?_
  refine gx_iadd X d_Lw_law_593 ?_
  refine gx_sld X hV hb hbA d_Lw_law_594 (nI_add _ _) (by omega) hn ?_
  refine gx_aload_n X d_Lw_law_595 rfl rfl ?_
  refine gx_iload X d_Lw_law_596 rfl ?_
  refine gx_iconst X d_Lw_law_598 (v := nI 2) (by decide) ?_
  refine gx_iadd X d_Lw_law_599 ?_
  refine gx_sld X hV hb hbA d_Lw_law_600 (nI_add _ _) (by omega) hn ?_
  refine gx_aload_n X d_Lw_law_601 rfl rfl ?_
  refine gx_callH X hT hst d_Lw_law_602 mh_node lk_Lw_114 (h_node HX H6 hnd hf hK _ _) rfl rfl (Nat.le_of_ble_eq_true rfl) ⟨Nat.le_of_ble_eq_true rfl, Nat.le_of_ble_eq_true rfl⟩ ⟨rfl, rfl⟩ hc (fun r602 F1 L1 hp602 => ?_)
  obtain ⟨k, v, z1, hk3, hs, rfl, hout, hK1, hF1, hL1⟩ := hp602
  refine gx_istore X d_Lw_law_605 (by decide) ?_
  refine gx_aload_n X d_Lw_law_607 rfl rfl ?_
  refine gx_aload_n X d_Lw_law_608 rfl rfl ?_
  refine gx_iload X d_Lw_law_609 rfl ?_
  refine gx_iconst X d_Lw_law_611 (v := nI 1) (by decide) ?_
  refine gx_iadd X d_Lw_law_612 ?_
  refine gx_sld X hV hb hbA d_Lw_law_613 (nI_add _ _) (by omega) hn ?_
  refine gx_aload_n X d_Lw_law_614 rfl rfl ?_
  refine gx_iload X d_Lw_law_615 rfl ?_
  refine gx_iconst X d_Lw_law_617 (v := nI 2) (by decide) ?_
  refine gx_iadd X d_Lw_law_618 ?_
  refine gx_sld X hV hb hbA d_Lw_law_619 (nI_add _ _) (by omega) hn ?_
  refine gx_callV X d_Lw_law_620 mf_Mo_node lk_Lw_116 (Con.widen flt_sub (List.Pairwise.filter _ hnd) (q_node HM.flt (hM.keep hF1 hL1) _ _)) (HM _ rfl).1 (HM _ rfl).2 rfl rfl rfl (Nat.le_of_ble_eq_true rfl) ⟨Nat.le_of_ble_eq_true rfl, Nat.le_of_ble_eq_true rfl⟩ ⟨rfl, rfl⟩ hc1 (fun r620 F620 L620 hp620 => ?_)
  obtain ⟨F2, L2, hp2, rfl, rfl⟩ := hp620
  obtain ⟨rfl, h3, hM2⟩ := hp2 k v z1 hs
  have hLI : LI w (mF (ks.filter sM) F2 F1) (mL (ks.filter sM) L2 L1) z1 := ⟨hK1.afterM, hM2.inM HM, (by rw [hs.1]; exact hq)⟩
  refine gx_istore X d_Lw_law_623 (by decide) ?_
  refine gx_aload_n X d_Lw_law_625 rfl rfl ?_
  refine gx_callV X d_Lw_law_626 mf_Mo_thrown lk_Lw_73 (c_Mo_thrown HM) (HM _ rfl).1 (HM _ rfl).2 rfl rfl rfl (Nat.le_of_ble_eq_true rfl) ⟨Nat.le_of_ble_eq_true rfl, Nat.le_of_ble_eq_true rfl⟩ ⟨rfl, rfl⟩ hc1 (fun r626 F626 L626 hp626 => ?_)
  obtain ⟨rfl, rfl, rfl⟩ := hp626
  have h4 : mF (ks.filter sM) F2 F1 40 3 = nI k := by rw [mF_in HM rfl]; exact h3
  refine gx_top h4 ?_
  refine gx_iload X d_Lw_law_629 rfl ?_
  refine gx_icmp_eq X d_Lw_law_631 (tgt := 636) (by decide) (fun h631 => ?_) (fun h631 => ?_)
  · refine gx_iload X d_Lw_law_636 rfl ?_
    refine gx_if_ne X d_Lw_law_638 (tgt := 653) (by decide) (fun h638 => ?_) (fun h638 => ?_)
    · skip
      refine gx_goto X d_Lw_law_653 (tgt := 781) (by decide) ?_
      exact gx_el (K _ _ _ hLI) ⟨rfl, rfl, rfl, rfl, rfl, trivial⟩
    · have hk0 : k = 0 := k3_0 hk3 h638
      refine gx_aload_n X d_Lw_law_641 rfl rfl ?_
      refine gx_iconst X d_Lw_law_642 (v := nI 0) (by decide) ?_
      refine gx_lald X d_Lw_law_643 (H6 _ rfl).1 (H6 _ rfl).2 rfl (by omega) (by omega) ?_
      refine gx_topl (y := v.toInt64) (by rw [mL_out rfl]; exact hout hk0) ?_
      refine gx_iload X d_Lw_law_644 rfl ?_
      refine gx_i2l X d_Lw_law_646 rfl ?_
      refine gx_lcmp X d_Lw_law_647 ?_
      refine gx_top (lg_self _) ?_
      refine gx_if_eq X d_Lw_law_648 (tgt := 653) (by decide) (fun h648 => ?_) (fun h648 => ?_)
      · skip
        refine gx_goto X d_Lw_law_653 (tgt := 781) (by decide) ?_
        exact gx_el (K _ _ _ hLI) ⟨rfl, rfl, rfl, rfl, rfl, trivial⟩
      · exact absurd rfl h648
  · exact absurd rfl h631
set_option maxHeartbeats 4000000 in
theorem lw_path (C : LwC l p s m args meth c c0 A D ca ks lay ad w n xs) (hI : LI w F L z) (hi : i0 + 3 < n) (hc : cells + 1 ≤ room_1.cells ∧ slots + 6 ≤ room_1.slots) (K : ∀ F' L' z', LI w F' L' z' → GX p l e room_1 s m args below meth c Q 7 A D vcl ca ks lay ad (cells + 1) (slots + 6) 781 [(4, xI (nI i0)), (3, xR 60), (2, xR 40), (1, xR 0), (0, xR 61)] [] F' L') : GX p l e room_1 s m args below meth c Q 7 A D vcl ca ks lay ad cells slots 669 [(4, xI (nI i0)), (3, xR 60), (2, xR 40), (1, xR 0), (0, xR 61)] [] F L := by
  obtain ⟨X, hT, hst, HX, HM, H6, hnd, hf, hV, hb, hbA, hn⟩ := C
  obtain ⟨hK, hM, hq⟩ := hI
  have hc0 : cells ≤ room_1.cells ∧ slots ≤ room_1.slots := ⟨by omega, by omega⟩
  have hc1 : cells + 1 ≤ room_1.cells ∧ slots + 6 ≤ room_1.slots := hc
  refine gx_aload_n X d_Lw_law_669 rfl rfl ?_
  refine gx_aload_n X d_Lw_law_670 rfl rfl ?_
  refine gx_iload X d_Lw_law_671 rfl ?_
  refine gx_iconst X d_Lw_law_673 (v := nI 1) (by decide) ?_
  refine gx_iadd X d_Lw_law_674 ?_
  refine gx_sld X hV hb hbA d_Lw_law_675 (nI_add _ _) (by omega) hn ?_
  refine gx_aload_n X d_Lw_law_676 rfl rfl ?_
  refine gx_callH X hT hst d_Lw_law_677 mh_path lk_Lw_121 (h_path HX H6 hnd hf hK _) rfl rfl (Nat.le_of_ble_eq_true rfl) ⟨Nat.le_of_ble_eq_true rfl, Nat.le_of_ble_eq_true rfl⟩ ⟨rfl, rfl⟩ hc (fun r677 F1 L1 hp677 => ?_)
  obtain ⟨k, v, z1, hk3, hs, rfl, hout, hK1, hF1, hL1⟩ := hp677
  refine gx_istore X d_Lw_law_680 (by decide) ?_
  refine gx_aload_n X d_Lw_law_682 rfl rfl ?_
  refine gx_aload_n X d_Lw_law_683 rfl rfl ?_
  refine gx_iload X d_Lw_law_684 rfl ?_
  refine gx_iconst X d_Lw_law_686 (v := nI 1) (by decide) ?_
  refine gx_iadd X d_Lw_law_687 ?_
  refine gx_sld X hV hb hbA d_Lw_law_688 (nI_add _ _) (by omega) hn ?_
  refine gx_callV X d_Lw_law_689 mf_Mo_path lk_Lw_123 (Con.widen flt_sub (List.Pairwise.filter _ hnd) (q_path HM.flt (hM.keep hF1 hL1) _)) (HM _ rfl).1 (HM _ rfl).2 rfl rfl rfl (Nat.le_of_ble_eq_true rfl) ⟨Nat.le_of_ble_eq_true rfl, Nat.le_of_ble_eq_true rfl⟩ ⟨rfl, rfl⟩ hc1 (fun r689 F689 L689 hp689 => ?_)
  obtain ⟨F2, L2, hp2, rfl, rfl⟩ := hp689
  obtain ⟨rfl, h3, hM2⟩ := hp2 k v z1 hs
  have hLI : LI w (mF (ks.filter sM) F2 F1) (mL (ks.filter sM) L2 L1) z1 := ⟨hK1.afterM, hM2.inM HM, (by rw [hs.1]; exact hq)⟩
  refine gx_istore X d_Lw_law_692 (by decide) ?_
  refine gx_aload_n X d_Lw_law_694 rfl rfl ?_
  refine gx_callV X d_Lw_law_695 mf_Mo_thrown lk_Lw_73 (c_Mo_thrown HM) (HM _ rfl).1 (HM _ rfl).2 rfl rfl rfl (Nat.le_of_ble_eq_true rfl) ⟨Nat.le_of_ble_eq_true rfl, Nat.le_of_ble_eq_true rfl⟩ ⟨rfl, rfl⟩ hc1 (fun r695 F695 L695 hp695 => ?_)
  obtain ⟨rfl, rfl, rfl⟩ := hp695
  have h4 : mF (ks.filter sM) F2 F1 40 3 = nI k := by rw [mF_in HM rfl]; exact h3
  refine gx_top h4 ?_
  refine gx_iload X d_Lw_law_698 rfl ?_
  refine gx_icmp_eq X d_Lw_law_700 (tgt := 705) (by decide) (fun h700 => ?_) (fun h700 => ?_)
  · refine gx_iload X d_Lw_law_705 rfl ?_
    refine gx_if_ne X d_Lw_law_707 (tgt := 722) (by decide) (fun h707 => ?_) (fun h707 => ?_)
    · skip
      refine gx_goto X d_Lw_law_722 (tgt := 781) (by decide) ?_
      exact gx_el (K _ _ _ hLI) ⟨rfl, rfl, rfl, rfl, rfl, trivial⟩
    · have hk0 : k = 0 := k3_0 hk3 h707
      refine gx_aload_n X d_Lw_law_710 rfl rfl ?_
      refine gx_iconst X d_Lw_law_711 (v := nI 0) (by decide) ?_
      refine gx_lald X d_Lw_law_712 (H6 _ rfl).1 (H6 _ rfl).2 rfl (by omega) (by omega) ?_
      refine gx_topl (y := v.toInt64) (by rw [mL_out rfl]; exact hout hk0) ?_
      refine gx_iload X d_Lw_law_713 rfl ?_
      refine gx_i2l X d_Lw_law_715 rfl ?_
      refine gx_lcmp X d_Lw_law_716 ?_
      refine gx_top (lg_self _) ?_
      refine gx_if_eq X d_Lw_law_717 (tgt := 722) (by decide) (fun h717 => ?_) (fun h717 => ?_)
      · skip
        refine gx_goto X d_Lw_law_722 (tgt := 781) (by decide) ?_
        exact gx_el (K _ _ _ hLI) ⟨rfl, rfl, rfl, rfl, rfl, trivial⟩
      · exact absurd rfl h717
  · exact absurd rfl h700
set_option maxHeartbeats 4000000 in
theorem lw_input (C : LwC l p s m args meth c c0 A D ca ks lay ad w n xs) (hI : LI w F L z) (hi : i0 + 3 < n) (hc : cells + 1 ≤ room_1.cells ∧ slots + 6 ≤ room_1.slots) (K : ∀ F' L' z', LI w F' L' z' → GX p l e room_1 s m args below meth c Q 7 A D vcl ca ks lay ad (cells + 1) (slots + 6) 781 [(4, xI (nI i0)), (3, xR 60), (2, xR 40), (1, xR 0), (0, xR 61)] [] F' L') : GX p l e room_1 s m args below meth c Q 7 A D vcl ca ks lay ad cells slots 725 [(4, xI (nI i0)), (3, xR 60), (2, xR 40), (1, xR 0), (0, xR 61)] [] F L := by
  obtain ⟨X, hT, hst, HX, HM, H6, hnd, hf, hV, hb, hbA, hn⟩ := C
  obtain ⟨hK, hM, hq⟩ := hI
  have hc0 : cells ≤ room_1.cells ∧ slots ≤ room_1.slots := ⟨by omega, by omega⟩
  have hc1 : cells + 1 ≤ room_1.cells ∧ slots + 6 ≤ room_1.slots := hc
  refine gx_aload_n X d_Lw_law_725 rfl rfl ?_
  refine gx_aload_n X d_Lw_law_726 rfl rfl ?_
  refine gx_iload X d_Lw_law_727 rfl ?_
  refine gx_iconst X d_Lw_law_729 (v := nI 1) (by decide) ?_
  refine gx_iadd X d_Lw_law_730 ?_
  refine gx_sld X hV hb hbA d_Lw_law_731 (nI_add _ _) (by omega) hn ?_
  refine gx_aload_n X d_Lw_law_732 rfl rfl ?_
  refine gx_callH X hT hst d_Lw_law_733 mh_input lk_Lw_124 (h_input HX H6 hnd hf hK _) rfl rfl (Nat.le_of_ble_eq_true rfl) ⟨Nat.le_of_ble_eq_true rfl, Nat.le_of_ble_eq_true rfl⟩ ⟨rfl, rfl⟩ hc (fun r733 F1 L1 hp733 => ?_)
  obtain ⟨k, v, z1, hk3, hs, rfl, hout, hK1, hF1, hL1⟩ := hp733
  refine gx_istore X d_Lw_law_736 (by decide) ?_
  refine gx_aload_n X d_Lw_law_738 rfl rfl ?_
  refine gx_aload_n X d_Lw_law_739 rfl rfl ?_
  refine gx_iload X d_Lw_law_740 rfl ?_
  refine gx_iconst X d_Lw_law_742 (v := nI 1) (by decide) ?_
  refine gx_iadd X d_Lw_law_743 ?_
  refine gx_sld X hV hb hbA d_Lw_law_744 (nI_add _ _) (by omega) hn ?_
  refine gx_callV X d_Lw_law_745 mf_Mo_input lk_Lw_126 (Con.widen flt_sub (List.Pairwise.filter _ hnd) (q_input HM.flt (hM.keep hF1 hL1) hq _)) (HM _ rfl).1 (HM _ rfl).2 rfl rfl rfl (Nat.le_of_ble_eq_true rfl) ⟨Nat.le_of_ble_eq_true rfl, Nat.le_of_ble_eq_true rfl⟩ ⟨rfl, rfl⟩ hc1 (fun r745 F745 L745 hp745 => ?_)
  obtain ⟨F2, L2, hp2, rfl, rfl⟩ := hp745
  obtain ⟨rfl, h3, hM2⟩ := hp2 k v z1 hs
  have hLI : LI w (mF (ks.filter sM) F2 F1) (mL (ks.filter sM) L2 L1) z1 := ⟨hK1.afterM, hM2.inM HM, (by rw [hs.1]; exact hq)⟩
  refine gx_istore X d_Lw_law_748 (by decide) ?_
  refine gx_aload_n X d_Lw_law_750 rfl rfl ?_
  refine gx_callV X d_Lw_law_751 mf_Mo_thrown lk_Lw_73 (c_Mo_thrown HM) (HM _ rfl).1 (HM _ rfl).2 rfl rfl rfl (Nat.le_of_ble_eq_true rfl) ⟨Nat.le_of_ble_eq_true rfl, Nat.le_of_ble_eq_true rfl⟩ ⟨rfl, rfl⟩ hc1 (fun r751 F751 L751 hp751 => ?_)
  obtain ⟨rfl, rfl, rfl⟩ := hp751
  have h4 : mF (ks.filter sM) F2 F1 40 3 = nI k := by rw [mF_in HM rfl]; exact h3
  refine gx_top h4 ?_
  refine gx_iload X d_Lw_law_754 rfl ?_
  refine gx_icmp_eq X d_Lw_law_756 (tgt := 761) (by decide) (fun h756 => ?_) (fun h756 => ?_)
  · refine gx_iload X d_Lw_law_761 rfl ?_
    refine gx_if_ne X d_Lw_law_763 (tgt := 778) (by decide) (fun h763 => ?_) (fun h763 => ?_)
    · skip
      refine gx_goto X d_Lw_law_778 (tgt := 781) (by decide) ?_
      exact gx_el (K _ _ _ hLI) ⟨rfl, rfl, rfl, rfl, rfl, trivial⟩
    · have hk0 : k = 0 := k3_0 hk3 h763
      refine gx_aload_n X d_Lw_law_766 rfl rfl ?_
      refine gx_iconst X d_Lw_law_767 (v := nI 0) (by decide) ?_
      refine gx_lald X d_Lw_law_768 (H6 _ rfl).1 (H6 _ rfl).2 rfl (by omega) (by omega) ?_
      refine gx_topl (y := v.toInt64) (by rw [mL_out rfl]; exact hout hk0) ?_
      refine gx_iload X d_Lw_law_769 rfl ?_
      refine gx_i2l X d_Lw_law_771 rfl ?_
      refine gx_lcmp X d_Lw_law_772 ?_
      refine gx_top (lg_self _) ?_
      refine gx_if_eq X d_Lw_law_773 (tgt := 778) (by decide) (fun h773 => ?_) (fun h773 => ?_)
      · skip
        refine gx_goto X d_Lw_law_778 (tgt := 781) (by decide) ?_
        exact gx_el (K _ _ _ hLI) ⟨rfl, rfl, rfl, rfl, rfl, trivial⟩
      · exact absurd rfl h773
  · exact absurd rfl h756
end LWC
