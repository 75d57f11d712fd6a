section
variable {l : Launch} {D : va_G} {ca : Nat → ClassId} {ks : List Nat} {lay : Nat → gxE} {ad : Nat → Nat} {F : Nat → Nat → Int32} {L : Nat → Nat → Int64} {w : Nat}
/-- what the class and the reference hold in common -/
def kS : Type := (Nat) × (Nat → Int32) × (Nat) × (Nat → Nat) × (Nat → Nat) × (Nat → Nat) × (Nat → Nat) × (Nat → Nat → Option Nat) × (Nat) × (Nat → Nat) × (Int32) × (List nd) × (Option (List Nat)) × (List Nat)
def kM (n : Nat) (ln : Nat → Int32) (ne : Nat) (ef : Nat → Nat) (et : Nat → Nat) (ek : Nat → Nat) (ev : Nat → Nat) (tg : Nat → Nat → Option Nat) (np : Nat) (sg : Nat → Nat) (oc : Int32) (ns : List nd) (pt : Option (List Nat)) (iq : List Nat) : kS := (n, ln, ne, ef, et, ek, ev, tg, np, sg, oc, ns, pt, iq)
def kS.n (z : kS) : Nat := Prod.fst (z) 
def kS.ln (z : kS) : Nat → Int32 := Prod.fst (Prod.snd (z)) 
def kS.ne (z : kS) : Nat := Prod.fst (Prod.snd (Prod.snd (z))) 
def kS.ef (z : kS) : Nat → Nat := Prod.fst (Prod.snd (Prod.snd (Prod.snd (z)))) 
def kS.et (z : kS) : Nat → Nat := Prod.fst (Prod.snd (Prod.snd (Prod.snd (Prod.snd (z))))) 
def kS.ek (z : kS) : Nat → Nat := Prod.fst (Prod.snd (Prod.snd (Prod.snd (Prod.snd (Prod.snd (z)))))) 
def kS.ev (z : kS) : Nat → Nat := Prod.fst (Prod.snd (Prod.snd (Prod.snd (Prod.snd (Prod.snd (Prod.snd (z))))))) 
def kS.tg (z : kS) : Nat → Nat → Option Nat := Prod.fst (Prod.snd (Prod.snd (Prod.snd (Prod.snd (Prod.snd (Prod.snd (Prod.snd (z)))))))) 
def kS.np (z : kS) : Nat := Prod.fst (Prod.snd (Prod.snd (Prod.snd (Prod.snd (Prod.snd (Prod.snd (Prod.snd (Prod.snd (z))))))))) 
def kS.sg (z : kS) : Nat → Nat := Prod.fst (Prod.snd (Prod.snd (Prod.snd (Prod.snd (Prod.snd (Prod.snd (Prod.snd (Prod.snd (Prod.snd (z)))))))))) 
def kS.oc (z : kS) : Int32 := Prod.fst (Prod.snd (Prod.snd (Prod.snd (Prod.snd (Prod.snd (Prod.snd (Prod.snd (Prod.snd (Prod.snd (Prod.snd (z))))))))))) 
def kS.ns (z : kS) : List nd := Prod.fst (Prod.snd (Prod.snd (Prod.snd (Prod.snd (Prod.snd (Prod.snd (Prod.snd (Prod.snd (Prod.snd (Prod.snd (Prod.snd (z)))))))))))) 
def kS.pt (z : kS) : Option (List Nat) := Prod.fst (Prod.snd (Prod.snd (Prod.snd (Prod.snd (Prod.snd (Prod.snd (Prod.snd (Prod.snd (Prod.snd (Prod.snd (Prod.snd (Prod.snd (z))))))))))))) 
def kS.iq (z : kS) : List Nat := Prod.snd (Prod.snd (Prod.snd (Prod.snd (Prod.snd (Prod.snd (Prod.snd (Prod.snd (Prod.snd (Prod.snd (Prod.snd (Prod.snd (Prod.snd (z)))))))))))))
def SrV (F : Nat → Nat → Int32) (ns : List nd) : Prop := ns.length ≤ 200 ∧ F 20 3 = nI ns.length ∧ ∀ k, k < ns.length → F 21 k = nI (nAt ns k).1 ∧ F 22 k = nI (nAt ns k).2.1 ∧ F 23 k = (if k = 0 then -1 else nI (nAt ns k).2.2.1) ∧ F 24 k = (if k = 0 then -1 else nI (nAt ns k).2.2.2.1)
def PtV (F : Nat → Nat → Int32) (o : Option (List Nat)) : Prop := match o with
  | none => F 20 13 = -1
  | some es => es.length ≤ 199 ∧ F 20 13 = nI es.length ∧ ∀ i, i < es.length → F 29 i = nI (es.getD i 0)
def InV (F : Nat → Nat → Int32) (q : List Nat) : Prop := q.length ≤ 200 ∧ F 30 5 = nI q.length ∧ ∀ i, i < q.length → F 32 i = nI (q.getD i 0)
/-- the class holds z -/
def KOK (F : Nat → Nat → Int32) (w : Nat) (z : kS) : Prop := SpOK F w ∧ LiOK F z.n ∧ F 3 = z.ln ∧ PrOK F w z.ne z.ef z.et z.ek z.ev z.tg ∧ GrOK F (2 ^ (3 * w)) z.np z.sg ∧ SrV F z.ns ∧ PtV F z.pt ∧ InV F z.iq ∧ F 0 9 = z.oc
theorem SrV.of {G : Nat → Nat → Int32} {ns : List nd} (h : SrV F ns) (e : ∀ a, 20 ≤ a ∧ a ≤ 29 → G a = F a) : SrV G ns := by
  unfold SrV
  rw [e 20 (by omega), e 21 (by omega), e 22 (by omega), e 23 (by omega), e 24 (by omega)]
  exact h
theorem PtV.of {G : Nat → Nat → Int32} {o : Option (List Nat)} (h : PtV F o) (e : ∀ a, 20 ≤ a ∧ a ≤ 29 → G a = F a) : PtV G o := by
  unfold PtV
  rw [e 20 (by omega), e 29 (by omega)]
  exact h
theorem InV.of {G : Nat → Nat → Int32} {q : List Nat} (h : InV F q) (e : G 30 = F 30) (e2 : G 32 = F 32) : InV G q := by
  unfold InV
  rw [e, e2]
  exact h
/-- the cells that hold z -/
theorem KOK.of {G : Nat → Nat → Int32} {z : kS} (h : KOK F w z) (e : ∀ a, a ≤ 3 ∨ (8 ≤ a ∧ a ≤ 12) ∨ (14 ≤ a ∧ a ≤ 30) ∨ a = 32 ∨ (100 ≤ a ∧ a < 120) → G a = F a) : KOK G w z := by
  obtain ⟨h1, h2, h3, h4, h5, h6, h7, h8, h9⟩ := h
  exact ⟨h1.of (e 1 (by omega)), h2.of (e 2 (by omega)) (e 3 (by omega)), (e 3 (by omega)).trans h3, h4.of (fun a ha => e a (by omega)), h5.of (fun a h1 h2 => e a (by omega)), h6.of (fun a ha => e a (by omega)), h7.of (fun a ha => e a (by omega)), h8.of (e 30 (by omega)) (e 32 (by omega)), by rw [e 0 (by omega)]; exact h9⟩
/-- the search forgotten -/
def kS.fgt (z : kS) : kS := (kM (z.n) (z.ln) (z.ne) (z.ef) (z.et) (z.ek) (z.ev) (z.tg) (z.np) (z.sg) (-1) ([]) (none) ([]))
def kS.wip (z : kS) : kS := (kM (0) (z.ln) (z.ne) (z.ef) (z.et) (z.ek) (z.ev) (z.tg) (z.np) (z.sg) (z.oc) (z.ns) (z.pt) (z.iq))
theorem c_PP_type (HX : gH ks lay (2 ^ (3 * w)) sX) {z : kS} (hz : KOK F w z) (x : Int32) : Con l y_PP_type (Cond.code y_PP_type b_PP_type 2 (some .int) :: WT) rm_PP_type D vcl ca ks lay ad [xR 0, xI x] F L (fun r F' L' => L' = L ∧ ((tyOK x z.n ∧ r = some (xI (nI (z.n + 1))) ∧ KOK F' w (kM (z.n + 1) (upd z.ln z.n x) (z.ne) (z.ef) (z.et) (z.ek) (z.ev) (z.tg) (z.np) (z.sg) (z.oc) (z.ns) (z.pt) (z.iq))) ∨ (¬ tyOK x z.n ∧ r = some (xI (-1)) ∧ KOK F' w z))) := by
  obtain ⟨h1, h2, h3, h4, h5, h6, h7, h8, h9⟩ := hz
  refine Con.ofK (fun post K => ?_)
  refine Con.of (ls := [(0, xR 0), (1, xI x)]) (by decide) rfl rfl (Nat.le_of_ble_eq_true rfl) ?_
  intro p e s m args below meth c A X hr hA
  refine gx_aload_n X d_PP_type_0 rfl rfl ?_
  refine gx_getr X d_PP_type_1 (gci in_PP) (HX _ rfl).1 (HX _ rfl).2 rfl 1 (by decide) (gcw X lk_PP_37) (fun _ h => h) rfl ?_
  refine gx_iload_n X d_PP_type_4 rfl rfl ?_
  refine gx_callV X d_PP_type_5 mf_Li_append lk_PP_88 (c_Li_append HX h2.1 h2.2.1 x) (HX _ rfl).1 (HX _ rfl).2 rfl rfl rfl (Nat.le_of_ble_eq_true rfl) ⟨by decide, by decide⟩ ⟨rfl, rfl⟩ ⟨Nat.zero_le _, Nat.zero_le _⟩ (fun r5 F5 L5 hp5 => ?_)
  obtain ⟨rfl, ⟨q1, rfl, q2⟩ | ⟨q1, rfl, rfl⟩⟩ := hp5
  · refine gx_iret X hr hA d_PP_type_8 (K _ _ _ ⟨rfl, Or.inl ⟨q1, rfl, ?_⟩⟩)
    have e : ∀ a, a ≠ 2 → a ≠ 3 → F5 a = F a := fun a ha hb => by rw [q2, gxu_cell ha, gxu_cell hb]
    have e3 : F5 3 = upd z.ln z.n x := by rw [q2, gxu_cell (by decide), gxu_in, h3]
    refine ⟨h1.of (e 1 (by decide) (by decide)), ⟨by have := q1.2.2; show z.n + 1 ≤ 24; omega, by rw [q2, gxu_at]; rfl, fun i hi => ?_⟩, e3, h4.of (fun a ha => e a (by omega) (by omega)), h5.of (fun a h1 h2 => e a (by omega) (by omega)), h6.of (fun a ha => e a (by omega) (by omega)), h7.of (fun a ha => e a (by omega) (by omega)), h8.of (e 30 (by omega) (by omega)) (e 32 (by omega) (by omega)), by rw [e 0 (by omega) (by omega)]; exact h9⟩
    rw [e3]
    by_cases ei : i = z.n
    · subst ei
      obtain ⟨ch, a1, a2, a3⟩ := tyOK_nI q1
      exact ⟨ch, a1, a2, by simp [upd, a3]⟩
    · obtain ⟨ch, a1, a2, a3⟩ := h2.2.2 i (by show i < z.n; have : i < z.n + 1 := hi; omega)
      exact ⟨ch, a1, a2, by rw [← a3, h3]; simp [upd, ei]⟩
  · refine gx_iret X hr hA d_PP_type_8 (K _ _ _ ⟨rfl, Or.inr ⟨q1, rfl, h1, h2, h3, h4, h5, h6, h7, h8, h9⟩⟩)
theorem KOK.wipe {z : kS} (h : KOK F w z) : KOK (gxu F 2 1 (nI 0)) w z.wip := by
  obtain ⟨h1, h2, h3, h4, h5, h6, h7, h8, h9⟩ := h
  have e : ∀ a, a ≠ 2 → gxu F 2 1 (nI 0) a = F a := fun a ha => gxu_cell ha
  exact ⟨h1.of (e 1 (by decide)), ⟨Nat.zero_le _, gxu_at, fun i hi => absurd hi (Nat.not_lt_zero i)⟩, (e 3 (by decide)).trans h3, h4.of (fun a ha => e a (by omega)), h5.of (fun a h1 h2 => e a (by omega)), h6.of (fun a ha => e a (by omega)), h7.of (fun a ha => e a (by omega)), h8.of (e 30 (by omega)) (e 32 (by omega)), by rw [e 0 (by omega)]; exact h9⟩
theorem c_PP_wipe (HX : gH ks lay (2 ^ (3 * w)) sX) {z : kS} (hz : KOK F w z) : Con l y_PP_wipe (Cond.code y_PP_wipe b_PP_wipe 1 none :: WT) rm_PP_wipe D vcl ca ks lay ad [xR 0] F L (fun r F' L' => r = none ∧ L' = L ∧ KOK F' w z.wip) := by
  refine Con.ofK (fun post K => ?_)
  refine Con.of (ls := [(0, xR 0)]) (by decide) rfl rfl (Nat.le_of_ble_eq_true rfl) ?_
  intro p e s m args below meth c A X hr hA
  refine gx_aload_n X d_PP_wipe_0 rfl rfl ?_
  refine gx_getr X d_PP_wipe_1 (gci in_PP) (HX _ rfl).1 (HX _ rfl).2 rfl 1 (by decide) (gcw X lk_PP_37) (fun _ h => h) rfl ?_
  refine gx_callV X d_PP_wipe_4 mf_Li_makeEmpty lk_PP_92 (c_Li_makeEmpty HX) (HX _ rfl).1 (HX _ rfl).2 rfl rfl rfl (Nat.le_of_ble_eq_true rfl) ⟨by decide, by decide⟩ ⟨rfl, rfl⟩ ⟨Nat.zero_le _, Nat.zero_le _⟩ (fun r4 F4 L4 hp4 => ?_)
  obtain ⟨rfl, rfl, rfl⟩ := hp4
  refine gx_vret X hr hA d_PP_wipe_7 (K _ _ _ ⟨rfl, rfl, hz.wipe⟩)
theorem c_PP_outcome (HX : gH ks lay (2 ^ (3 * w)) sX) {z : kS} (hz : KOK F w z) : Con l y_PP_outcome (Cond.code y_PP_outcome b_PP_outcome 1 (some .int) :: WT) rm_PP_outcome D vcl ca ks lay ad [xR 0] F L (fun r F' L' => r = some (xI z.oc) ∧ F' = F ∧ L' = L) := by
  refine Con.ofK (fun post K => ?_)
  refine Con.of (ls := [(0, xR 0)]) (by decide) rfl rfl (Nat.le_of_ble_eq_true rfl) ?_
  intro p e s m args below meth c A X hr hA
  refine gx_aload_n X d_PP_outcome_0 rfl rfl ?_
  refine gx_geti X d_PP_outcome_1 (gci in_PP) (HX _ rfl).1 (HX _ rfl).2 rfl 9 (by decide) (gcw X lk_PP_84) (fun _ h => h) rfl ?_
  refine gx_top hz.2.2.2.2.2.2.2.2 ?_
  refine gx_iret X hr hA d_PP_outcome_4 (K _ _ _ ⟨rfl, rfl, rfl⟩)
theorem c_PP_edges (HX : gH ks lay (2 ^ (3 * w)) sX) {z : kS} (hz : KOK F w z) : Con l y_PP_edges (Cond.code y_PP_edges b_PP_edges 1 (some .int) :: WT) rm_PP_edges D vcl ca ks lay ad [xR 0] F L (fun r F' L' => r = some (xI (nI z.ne)) ∧ F' = F ∧ L' = L) := by
  refine Con.ofK (fun post K => ?_)
  refine Con.of (ls := [(0, xR 0)]) (by decide) rfl rfl (Nat.le_of_ble_eq_true rfl) ?_
  intro p e s m args below meth c A X hr hA
  refine gx_aload_n X d_PP_edges_0 rfl rfl ?_
  refine gx_getr X d_PP_edges_1 (gci in_PP) (HX _ rfl).1 (HX _ rfl).2 rfl 4 (by decide) (gcw X lk_PP_54) (fun _ h => h) rfl ?_
  refine gx_geti X d_PP_edges_4 (gci in_Pr) (HX _ rfl).1 (HX _ rfl).2 rfl 6 (by decide) (gcw X lk_PP_147) (fun _ h => h) rfl ?_
  refine gx_top hz.2.2.2.1.2.1 ?_
  refine gx_iret X hr hA d_PP_edges_7 (K _ _ _ ⟨rfl, rfl, rfl⟩)
theorem c_PP_predicates (HX : gH ks lay (2 ^ (3 * w)) sX) {z : kS} (hz : KOK F w z) : Con l y_PP_predicates (Cond.code y_PP_predicates b_PP_predicates 1 (some .int) :: WT) rm_PP_predicates D vcl ca ks lay ad [xR 0] F L (fun r F' L' => r = some (xI (nI z.np)) ∧ F' = F ∧ L' = L) := by
  refine Con.ofK (fun post K => ?_)
  refine Con.of (ls := [(0, xR 0)]) (by decide) rfl rfl (Nat.le_of_ble_eq_true rfl) ?_
  intro p e s m args below meth c A X hr hA
  refine gx_aload_n X d_PP_predicates_0 rfl rfl ?_
  refine gx_getr X d_PP_predicates_1 (gci in_PP) (HX _ rfl).1 (HX _ rfl).2 rfl 5 (by decide) (gcw X lk_PP_58) (fun _ h => h) rfl ?_
  refine gx_geti X d_PP_predicates_4 (gci in_Gr) (HX _ rfl).1 (HX _ rfl).2 rfl 1 (by decide) (gcw X lk_PP_131) (fun _ h => h) rfl ?_
  refine gx_top hz.2.2.2.2.1.1.2.1 ?_
  refine gx_iret X hr hA d_PP_predicates_7 (K _ _ _ ⟨rfl, rfl, rfl⟩)
theorem c_PP_nodes (HX : gH ks lay (2 ^ (3 * w)) sX) {z : kS} (hz : KOK F w z) : Con l y_PP_nodes (Cond.code y_PP_nodes b_PP_nodes 1 (some .int) :: WT) rm_PP_nodes D vcl ca ks lay ad [xR 0] F L (fun r F' L' => r = some (xI (nI z.ns.length)) ∧ F' = F ∧ L' = L) := by
  refine Con.ofK (fun post K => ?_)
  refine Con.of (ls := [(0, xR 0)]) (by decide) rfl rfl (Nat.le_of_ble_eq_true rfl) ?_
  intro p e s m args below meth c A X hr hA
  refine gx_aload_n X d_PP_nodes_0 rfl rfl ?_
  refine gx_getr X d_PP_nodes_1 (gci in_PP) (HX _ rfl).1 (HX _ rfl).2 rfl 6 (by decide) (gcw X lk_PP_62) (fun _ h => h) rfl ?_
  refine gx_geti X d_PP_nodes_4 (gci in_Se) (HX _ rfl).1 (HX _ rfl).2 rfl 3 (by decide) (gcw X lk_PP_176) (fun _ h => h) rfl ?_
  refine gx_top hz.2.2.2.2.2.1.2.1 ?_
  refine gx_iret X hr hA d_PP_nodes_7 (K _ _ _ ⟨rfl, rfl, rfl⟩)
def ptL (o : Option (List Nat)) : Int32 := match o with
  | none => -1
  | some es => nI es.length
theorem PtV.len {o : Option (List Nat)} (h : PtV F o) : F 20 13 = ptL o := by
  cases o with
  | none => exact h
  | some es => exact h.2.1
theorem c_PP_length (HX : gH ks lay (2 ^ (3 * w)) sX) {z : kS} (hz : KOK F w z) : Con l y_PP_length (Cond.code y_PP_length b_PP_length 1 (some .int) :: WT) rm_PP_length D vcl ca ks lay ad [xR 0] F L (fun r F' L' => r = some (xI (ptL z.pt)) ∧ F' = F ∧ L' = L) := by
  refine Con.ofK (fun post K => ?_)
  refine Con.of (ls := [(0, xR 0)]) (by decide) rfl rfl (Nat.le_of_ble_eq_true rfl) ?_
  intro p e s m args below meth c A X hr hA
  refine gx_aload_n X d_PP_length_0 rfl rfl ?_
  refine gx_getr X d_PP_length_1 (gci in_PP) (HX _ rfl).1 (HX _ rfl).2 rfl 6 (by decide) (gcw X lk_PP_62) (fun _ h => h) rfl ?_
  refine gx_geti X d_PP_length_4 (gci in_Se) (HX _ rfl).1 (HX _ rfl).2 rfl 13 (by decide) (gcw X lk_PP_191) (fun _ h => h) rfl ?_
  refine gx_top hz.2.2.2.2.2.2.1.len ?_
  refine gx_iret X hr hA d_PP_length_7 (K _ _ _ ⟨rfl, rfl, rfl⟩)
/-- nothing is said of the search -/
def KO0 (F : Nat → Nat → Int32) (w : Nat) (z : kS) : Prop := SpOK F w ∧ LiOK F z.n ∧ F 3 = z.ln ∧ PrOK F w z.ne z.ef z.et z.ek z.ev z.tg ∧ GrOK F (2 ^ (3 * w)) z.np z.sg
theorem KOK.zero {z : kS} (h : KOK F w z) : KO0 F w z := ⟨h.1, h.2.1, h.2.2.1, h.2.2.2.1, h.2.2.2.2.1⟩
theorem c_PP_forgetSearch (HX : gH ks lay (2 ^ (3 * w)) sX) {z : kS} (hz : KO0 F w z) : Con l y_PP_forgetSearch (Cond.code y_PP_forgetSearch b_PP_forgetSearch 1 none :: WT) rm_PP_forgetSearch D vcl ca ks lay ad [xR 0] F L (fun r F' L' => r = none ∧ L' = L ∧ KOK F' w z.fgt) := by
  obtain ⟨h1, h2, h3, h4, h5⟩ := hz
  refine Con.ofK (fun post K => ?_)
  refine Con.of (ls := [(0, xR 0)]) (by decide) rfl rfl (Nat.le_of_ble_eq_true rfl) ?_
  intro p e s m args below meth c A X hr hA
  refine gx_aload_n X d_PP_forgetSearch_0 rfl rfl ?_
  refine gx_getr X d_PP_forgetSearch_1 (gci in_PP) (HX _ rfl).1 (HX _ rfl).2 rfl 6 (by decide) (gcw X lk_PP_62) (fun _ h => h) rfl ?_
  refine gx_callV X d_PP_forgetSearch_4 mf_Se_forget lk_PP_207 (c_Se_forget HX) (HX _ rfl).1 (HX _ rfl).2 rfl rfl rfl (Nat.le_of_ble_eq_true rfl) ⟨by decide, by decide⟩ ⟨rfl, rfl⟩ ⟨Nat.zero_le _, Nat.zero_le _⟩ (fun r4 F4 L4 hp4 => ?_)
  obtain ⟨rfl, q4, rfl⟩ := hp4
  refine gx_aload_n X d_PP_forgetSearch_7 rfl rfl ?_
  refine gx_getr X d_PP_forgetSearch_8 (gci in_PP) (HX _ rfl).1 (HX _ rfl).2 rfl 7 (by decide) (gcw X lk_PP_71) (fun _ h => h) rfl ?_
  refine gx_callV X d_PP_forgetSearch_11 mf_Re_forget lk_PP_210 (c_Re_forget HX) (HX _ rfl).1 (HX _ rfl).2 rfl rfl rfl (Nat.le_of_ble_eq_true rfl) ⟨by decide, by decide⟩ ⟨rfl, rfl⟩ ⟨Nat.zero_le _, Nat.zero_le _⟩ (fun r11 F11 L11 hp11 => ?_)
  obtain ⟨rfl, q11, rfl⟩ := hp11
  refine gx_aload_n X d_PP_forgetSearch_14 rfl rfl ?_
  refine gx_iconst X d_PP_forgetSearch_15 (v := (-1)) (by decide) ?_
  refine gx_puti X d_PP_forgetSearch_16 (gci in_PP) (HX _ rfl).1 (HX _ rfl).2 rfl 9 (by decide) (gcw X lk_PP_84) (fun _ h => h) t_PP ty_PP nm_PP rfl (ty_PP 9 (by decide)) rfl rfl rfl ?_
  refine gx_vret X hr hA d_PP_forgetSearch_19 (K _ _ _ ⟨rfl, rfl, ?_⟩)
  have e : ∀ a, a ≠ 0 → a ≠ 20 → a ≠ 30 → gxu F11 0 9 (-1) a = F a := fun a x1 x2 x3 => by rw [gxu_cell x1, q11, gxu_cell x3, q4, gxu_cell x2, gxu_cell x2, gxu_cell x2]
  refine ⟨h1.of (e 1 (by decide) (by decide) (by decide)), h2.of (e 2 (by decide) (by decide) (by decide)) (e 3 (by decide) (by decide) (by decide)), (e 3 (by decide) (by decide) (by decide)).trans h3, h4.of (fun a ha => e a (by omega) (by omega) (by omega)), h5.of (fun a h1 h2 => e a (by omega) (by omega) (by omega)), ⟨Nat.zero_le _, ?_, fun k hk => absurd hk (Nat.not_lt_zero k)⟩, ?_, ⟨Nat.zero_le _, ?_, fun k hk => absurd hk (Nat.not_lt_zero k)⟩, gxu_at⟩
  · rw [gxu_cell (by decide), q11, gxu_cell (by decide), q4, gxu_ne (by decide), gxu_ne (by decide), gxu_at]; rfl
  · show _ = (-1 : Int32)
    rw [gxu_cell (by decide), q11, gxu_cell (by decide), q4, gxu_at]
  · rw [gxu_cell (by decide), q11, gxu_at]; rfl
def kS.clr (z : kS) : kS := (kM (0) (z.ln) (0) (z.ef) (z.et) (z.ek) (z.ev) (z.tg) (0) (fun _ => 0) (z.oc) (z.ns) (z.pt) (z.iq))
theorem c_PP_clear (HX : gH ks lay (2 ^ (3 * w)) sX) {z : kS} (hz : KOK F w z) : Con l y_PP_clear (Cond.code y_PP_clear b_PP_clear 1 none :: WT) rm_PP_clear D vcl ca ks lay ad [xR 0] F L (fun r F' L' => r = none ∧ L' = L ∧ KOK F' w z.clr.fgt) := by
  obtain ⟨h1, h2, h3, h4, h5⟩ := hz.wipe.zero
  refine Con.ofK (fun post K => ?_)
  refine Con.of (ls := [(0, xR 0)]) (by decide) rfl rfl (Nat.le_of_ble_eq_true rfl) ?_
  intro p e s m args below meth c A X hr hA
  refine gx_aload_n X d_PP_clear_0 rfl rfl ?_
  refine gx_getr X d_PP_clear_1 (gci in_PP) (HX _ rfl).1 (HX _ rfl).2 rfl 1 (by decide) (gcw X lk_PP_37) (fun _ h => h) rfl ?_
  refine gx_callV X d_PP_clear_4 mf_Li_makeEmpty lk_PP_92 (c_Li_makeEmpty HX) (HX _ rfl).1 (HX _ rfl).2 rfl rfl rfl (Nat.le_of_ble_eq_true rfl) ⟨by decide, by decide⟩ ⟨rfl, rfl⟩ ⟨Nat.zero_le _, Nat.zero_le _⟩ (fun r4 F4 L4 hp4 => ?_)
  obtain ⟨rfl, rfl, rfl⟩ := hp4
  refine gx_aload_n X d_PP_clear_7 rfl rfl ?_
  refine gx_getr X d_PP_clear_8 (gci in_PP) (HX _ rfl).1 (HX _ rfl).2 rfl 4 (by decide) (gcw X lk_PP_54) (fun _ h => h) rfl ?_
  refine gx_iconst X d_PP_clear_11 (v := nI 0) (by decide) ?_
  refine gx_puti X d_PP_clear_12 (gci in_Pr) (HX _ rfl).1 (HX _ rfl).2 rfl 6 (by decide) (gcw X lk_PP_147) (fun _ h => h) t_Pr ty_Pr nm_Pr rfl (ty_Pr 6 (by decide)) rfl rfl rfl ?_
  refine gx_aload_n X d_PP_clear_15 rfl rfl ?_
  refine gx_getr X d_PP_clear_16 (gci in_PP) (HX _ rfl).1 (HX _ rfl).2 rfl 5 (by decide) (gcw X lk_PP_58) (fun _ h => h) rfl ?_
  refine gx_callV X d_PP_clear_19 mf_Gr_dropPredicates lk_PP_148 (c_Gr_dropPredicates (HX.mono sG_X) (h1.of (gxu_cell (by decide)))) (HX _ rfl).1 (HX _ rfl).2 rfl rfl rfl (Nat.le_of_ble_eq_true rfl) ⟨by decide, by decide⟩ ⟨rfl, rfl⟩ ⟨Nat.zero_le _, Nat.zero_le _⟩ (fun r19 F19 L19 hp19 => ?_)
  obtain ⟨rfl, rfl, q1, q2⟩ := hp19
  have e : ∀ a, a ≠ 8 → ¬ (14 ≤ a ∧ a ≤ 19) → F19 a = gxu F 2 1 (nI 0) a := fun a x1 x2 => by rw [q1 a x2, gxu_cell x1]
  refine gx_aload_n X d_PP_clear_22 rfl rfl ?_
  refine gx_callV X d_PP_clear_23 mf_PP_forgetSearch lk_PP_119 (c_PP_forgetSearch HX (z := z.clr) ⟨h1.of (e 1 (by decide) (by decide)), h2.of (e 2 (by decide) (by decide)) (e 3 (by decide) (by decide)), (e 3 (by decide) (by decide)).trans h3, ⟨Nat.zero_le _, by rw [q1 8 (by decide), gxu_at]; rfl, fun e he => absurd he (Nat.not_lt_zero e)⟩, q2⟩) (HX _ rfl).1 (HX _ rfl).2 rfl rfl rfl (Nat.le_of_ble_eq_true rfl) ⟨by decide, by decide⟩ ⟨rfl, rfl⟩ ⟨Nat.zero_le _, Nat.zero_le _⟩ (fun r23 F23 L23 hp23 => ?_)
  obtain ⟨rfl, rfl, q3⟩ := hp23
  refine gx_vret X hr hA d_PP_clear_26 (K _ _ _ ⟨rfl, rfl, q3⟩)
/-- the search's end -/
noncomputable def srQ (w : Nat) (z : kS) : List nd × Nat := srN (rchB (2 ^ (3 * w)) w z.ek z.ev z.tg z.sg) (2 ^ z.np) z.ne z.ef z.et 200 0 [(0, z.sg 0, 0, 0, 0)]
def esQ (ns : List nd) : List Nat := pthL ns (nAt ns (ns.length - 1)).2.2.2.2 (ns.length - 1)
/-- one round; oc is its answer -/
noncomputable def mkR (w : Nat) (z : kS) : kS :=
  if (srQ w z).2 = 1 then (kM z.n z.ln z.ne z.ef z.et z.ek z.ev z.tg z.np z.sg (nI 3) (srQ w z).1 none [])
  else if (srQ w z).2 = 0 then (kM z.n z.ln z.ne z.ef z.et z.ek z.ev z.tg z.np z.sg (nI 1) (srQ w z).1 none [])
  else if opn w z.ek z.ev z.tg (esQ (srQ w z).1) 0 = true then (kM z.n z.ln z.ne z.ef z.et z.ek z.ev z.tg z.np z.sg (nI 2) (srQ w z).1 (some (esQ (srQ w z).1)) (inp w z.ek z.ev z.tg (esQ (srQ w z).1) 0))
  else (kM z.n z.ln z.ne z.ef z.et z.ek z.ev z.tg (rfn w z.ek z.ev z.tg (esQ (srQ w z).1) (z.np, z.sg)).2.1 (rfn w z.ek z.ev z.tg (esQ (srQ w z).1) (z.np, z.sg)).2.2 (cond (rfn w z.ek z.ev z.tg (esQ (srQ w z).1) (z.np, z.sg)).1 (nI 0) (nI 3)) (srQ w z).1 (some (esQ (srQ w z).1)) [])
theorem pthL_lt {N np : Nat} {sg : Nat → Nat} {ne : Nat} {ns : List nd} (h : NsOK N np sg ne ns) : ∀ (d k : Nat), k < ns.length → (nAt ns k).2.2.2.2 = d → ∀ e ∈ pthL ns d k, e < ne := by
  intro d
  induction d with
  | zero => intro k _ _ e he; simp [pthL] at he
  | succ d ih =>
    intro k hk hd e he
    obtain ⟨-, -, h3, h4⟩ := h.2.2 k hk
    have hk0 : 0 < k := by
      rcases Nat.eq_zero_or_pos k with q | q
      · rw [h3 q] at hd; omega
      · exact q
    obtain ⟨g1, g2, g3⟩ := h4 hk0
    simp only [pthL, List.mem_append, List.mem_singleton] at he
    rcases he with he | he
    · exact ih _ (by omega) (by omega) e he
    · rw [he]; exact g2
theorem EsOK.ofPt {N np : Nat} {sg : Nat → Nat} {ne : Nat} {ns : List nd} (h : NsOK N np sg ne ns) (hp : PtOK F ns) : EsOK F ne (esQ ns) := by
  have hl := h.1
  have hl2 := h.2.1
  have hd := h.dep (ns.length - 1) (by omega)
  have hlen : (esQ ns).length = (nAt ns (ns.length - 1)).2.2.2.2 := pthL_len _ _ _
  refine ⟨by rw [hlen]; omega, by rw [hlen]; exact hp.1, fun i hi => ⟨hp.2 i (by rw [← hlen]; exact hi), ?_⟩⟩
  have hm : (esQ ns).getD i 0 ∈ esQ ns := by
    rw [List.getD_eq_getElem?_getD, List.getElem?_eq_getElem hi]
    exact List.getElem_mem hi
  exact pthL_lt h _ _ (by omega) rfl _ hm
theorem inp_len (w : Nat) (ek ev : Nat → Nat) (tg : Nat → Nat → Option Nat) : ∀ (es : List Nat) (s : Nat), (inp w ek ev tg es s).length ≤ es.length
  | [], _ => Nat.le_refl _
  | e :: r, s => by
    unfold inp
    cases hf : (List.range (chs w ek e)).find? (fsO w ek ev tg (opn w ek ev tg r) e s) with
    | none => simp
    | some x =>
      have := inp_len w ek ev tg r ((stp w ek ev tg e s x).getD 0)
      simp only [List.length_append, List.length_cons]
      split <;> simp <;> omega
theorem SeOK.srv {N : Nat} {sg : Nat → Nat} {ns : List nd} (h : SeOK F N sg ns) (hl : ns.length ≤ 200) : SrV F ns := ⟨hl, h.1, fun k hk => by
  obtain ⟨a1, a2, a3, a4, -, -⟩ := h.2.1 k hk
  exact ⟨a1, a2, a3, a4⟩⟩
/-- what is held but the answer -/
def KO1 (F : Nat → Nat → Int32) (w : Nat) (z : kS) : Prop := SpOK F w ∧ LiOK F z.n ∧ F 3 = z.ln ∧ PrOK F w z.ne z.ef z.et z.ek z.ev z.tg ∧ GrOK F (2 ^ (3 * w)) z.np z.sg ∧ SrV F z.ns ∧ PtV F z.pt ∧ InV F z.iq
theorem KO1.put {z : kS} (h : KO1 F w z) {x : Int32} (hx : x = z.oc) : KOK (gxu F 0 9 x) w z := by
  obtain ⟨h1, h2, h3, h4, h5, h6, h7, h8⟩ := h
  have e : ∀ a, a ≠ 0 → gxu F 0 9 x a = F a := fun a ha => gxu_cell ha
  exact ⟨h1.of (e 1 (by decide)), h2.of (e 2 (by decide)) (e 3 (by decide)), (e 3 (by decide)).trans h3, h4.of (fun a ha => e a (by omega)), h5.of (fun a h1 h2 => e a (by omega)), h6.of (fun a ha => e a (by omega)), h7.of (fun a ha => e a (by omega)), h8.of (e 30 (by omega)) (e 32 (by omega)), by rw [gxu_at]; exact hx⟩
set_option maxHeartbeats 4000000 in
theorem c_PP_makeRound (HX : gH ks lay (2 ^ (3 * w)) sX) {z : kS} (hz : KO0 F w z) : Con l y_PP_makeRound (Cond.code y_PP_makeRound b_PP_makeRound 1 (some .int) :: WT) rm_PP_makeRound D vcl ca ks lay ad [xR 0] F L (fun r F' L' => r = some (xI (mkR w z).oc) ∧ (∀ a, ¬ (200 ≤ a ∧ a < 404) → a ≠ 35 → L' a = L a) ∧ F' 0 = F 0 ∧ KO1 F' w (mkR w z)) := by
  obtain ⟨h1, h2, h3, h4, h5⟩ := hz
  refine Con.ofK (fun post K => ?_)
  refine Con.of (ls := [(0, xR 0)]) (by decide) rfl rfl (Nat.le_of_ble_eq_true rfl) ?_
  intro p e s m args below meth c A X hr hA
  refine gx_aload_n X d_PP_makeRound_0 rfl rfl ?_
  refine gx_getr X d_PP_makeRound_1 (gci in_PP) (HX _ rfl).1 (HX _ rfl).2 rfl 7 (by decide) (gcw X lk_PP_71) (fun _ h => h) rfl ?_
  refine gx_callV X d_PP_makeRound_4 mf_Re_forget lk_PP_210 (c_Re_forget HX) (HX _ rfl).1 (HX _ rfl).2 rfl rfl rfl (Nat.le_of_ble_eq_true rfl) ⟨by decide, by decide⟩ ⟨rfl, rfl⟩ ⟨Nat.zero_le _, Nat.zero_le _⟩ (fun r4 F4 L4 hp4 => ?_)
  obtain ⟨rfl, q4, rfl⟩ := hp4
  have e4 : ∀ a, a ≠ 30 → F4 a = F a := fun a x1 => by rw [q4, gxu_cell x1]
  refine gx_aload_n X d_PP_makeRound_7 rfl rfl ?_
  refine gx_getr X d_PP_makeRound_8 (gci in_PP) (HX _ rfl).1 (HX _ rfl).2 rfl 6 (by decide) (gcw X lk_PP_62) (fun _ h => h) rfl ?_
  refine gx_callV X d_PP_makeRound_11 mf_Se_run lk_PP_211 (c_Se_run HX (h1.of (e4 1 (by decide))) (h5.of (fun a x1 x2 => e4 a (by omega))) (h4.of (fun a ha => e4 a (by omega)))) (HX _ rfl).1 (HX _ rfl).2 rfl rfl rfl (Nat.le_of_ble_eq_true rfl) ⟨by decide, by decide⟩ ⟨rfl, rfl⟩ ⟨Nat.zero_le _, Nat.zero_le _⟩ (fun r11 F11 L11 hp11 => ?_)
  obtain ⟨rfl, rfl, q1, q2, q3, q5, q6, q7, q8⟩ := hp11
  have hsr : srN (rchB (2 ^ (3 * w)) w z.ek z.ev z.tg z.sg) (2 ^ z.np) z.ne z.ef z.et 200 0 [(0, z.sg 0, 0, 0, 0)] = srQ w z := rfl
  rw [hsr] at q2 q3 q5 q6 q7 q8
  have e11 : ∀ a, ¬ (20 ≤ a ∧ a ≤ 30) → F11 a = F a := fun a x1 => by rw [q1 a (by omega), e4 a (by omega)]
  have g1 := h1.of (e11 1 (by decide))
  have g2 := h2.of (e11 2 (by decide)) (e11 3 (by decide))
  have g3 := (e11 3 (by decide)).trans h3
  have g4 := h4.of (fun a ha => e11 a (by omega))
  have g5 := h5.of (fun a x1 x2 => e11 a (by omega))
  have g6 := q2.srv q3.2.1
  have g30 : F11 30 5 = nI 0 := by rw [q1 30 (by decide), q4, gxu_at]
  have gin : InV F11 [] := ⟨Nat.zero_le _, g30, fun i hi => absurd hi (Nat.not_lt_zero i)⟩
  refine gx_aload_n X d_PP_makeRound_14 rfl rfl ?_
  refine gx_getr X d_PP_makeRound_15 (gci in_PP) (HX _ rfl).1 (HX _ rfl).2 rfl 6 (by decide) (gcw X lk_PP_62) (fun _ h => h) rfl ?_
  refine gx_geti X d_PP_makeRound_18 (gci in_Se) (HX _ rfl).1 (HX _ rfl).2 rfl 12 (by decide) (gcw X lk_PP_214) (fun _ h => h) rfl ?_
  have hcase : (srQ w z).2 = 0 ∨ (srQ w z).2 = 1 ∨ (srQ w z).2 = 2 := by omega
  rcases hcase with hk | hk | hk
  · have hm : mkR w z = (kM z.n z.ln z.ne z.ef z.et z.ek z.ev z.tg z.np z.sg (nI 1) (srQ w z).1 none []) := by unfold mkR; rw [if_neg (by omega), if_pos hk]
    rw [hm] at K
    obtain ⟨r1, r2⟩ := q6 hk
    refine gx_top r1 ?_
    refine gx_if_eq X d_PP_makeRound_21 (tgt := 26) (by decide) (fun h21 => ?_) (fun h21 => ?_)
    · refine gx_aload_n X d_PP_makeRound_26 rfl rfl ?_
      refine gx_getr X d_PP_makeRound_27 (gci in_PP) (HX _ rfl).1 (HX _ rfl).2 rfl 6 (by decide) (gcw X lk_PP_62) (fun _ h => h) rfl ?_
      refine gx_geti X d_PP_makeRound_30 (gci in_Se) (HX _ rfl).1 (HX _ rfl).2 rfl 13 (by decide) (gcw X lk_PP_191) (fun _ h => h) rfl ?_
      refine gx_top r2 ?_
      refine gx_if_ge X d_PP_makeRound_33 (tgt := 38) (by decide) (fun h33 => ?_) (fun h33 => ?_)
      · exact absurd h33 (by decide)
      · refine gx_iconst X d_PP_makeRound_36 (v := nI 1) (by decide) ?_
        refine gx_iret X hr hA d_PP_makeRound_37 (K _ _ _ ⟨rfl, fun _ _ _ => rfl, e11 0 (by decide), g1, g2, g3, g4, g5, g6, r2, gin⟩)
    · exact absurd rfl h21
  · have hm : mkR w z = (kM z.n z.ln z.ne z.ef z.et z.ek z.ev z.tg z.np z.sg (nI 3) (srQ w z).1 none []) := by unfold mkR; rw [if_pos hk]
    rw [hm] at K
    obtain ⟨r1, r2⟩ := q7 hk
    refine gx_top r1 ?_
    refine gx_if_eq X d_PP_makeRound_21 (tgt := 26) (by decide) (fun h21 => ?_) (fun h21 => ?_)
    · exact absurd h21 (by decide)
    · refine gx_iconst X d_PP_makeRound_24 (v := nI 3) (by decide) ?_
      refine gx_iret X hr hA d_PP_makeRound_25 (K _ _ _ ⟨rfl, fun _ _ _ => rfl, e11 0 (by decide), g1, g2, g3, g4, g5, g6, r2, gin⟩)
  · obtain ⟨r1, r2⟩ := q8 hk
    have hE := EsOK.ofPt q3 r2
    have gpt : PtV F11 (some (esQ (srQ w z).1)) := ⟨hE.1, hE.2.1, fun i hi => (hE.2.2 i hi).1⟩
    have hE1 := hE.1
    refine gx_top r1 ?_
    refine gx_if_eq X d_PP_makeRound_21 (tgt := 26) (by decide) (fun h21 => ?_) (fun h21 => ?_)
    · refine gx_aload_n X d_PP_makeRound_26 rfl rfl ?_
      refine gx_getr X d_PP_makeRound_27 (gci in_PP) (HX _ rfl).1 (HX _ rfl).2 rfl 6 (by decide) (gcw X lk_PP_62) (fun _ h => h) rfl ?_
      refine gx_geti X d_PP_makeRound_30 (gci in_Se) (HX _ rfl).1 (HX _ rfl).2 rfl 13 (by decide) (gcw X lk_PP_191) (fun _ h => h) rfl ?_
      refine gx_top hE.2.1 ?_
      refine gx_if_ge X d_PP_makeRound_33 (tgt := 38) (by decide) (fun h33 => ?_) (fun h33 => ?_)
      · refine gx_aload_n X d_PP_makeRound_38 rfl rfl ?_
        refine gx_getr X d_PP_makeRound_39 (gci in_PP) (HX _ rfl).1 (HX _ rfl).2 rfl 7 (by decide) (gcw X lk_PP_71) (fun _ h => h) rfl ?_
        refine gx_callV X d_PP_makeRound_42 mf_Re_succeeds lk_PP_218 (c_Re_succeeds HX g1 g4 hE g30) (HX _ rfl).1 (HX _ rfl).2 rfl rfl rfl (Nat.le_of_ble_eq_true rfl) ⟨by decide, by decide⟩ ⟨rfl, rfl⟩ ⟨Nat.zero_le _, Nat.zero_le _⟩ (fun r42 F42 L42 hp42 => ?_)
        obtain ⟨rfl, t1, t2, t3, t4⟩ := hp42
        have e42 : ∀ a, ¬ (20 ≤ a ∧ a ≤ 30) → a ≠ 32 → F42 a = F a := fun a x1 x2 => by rw [t2 a (by omega) x2, e11 a x1]
        have f1 := g1.of (t2 1 (by decide) (by decide))
        have f2 := g2.of (t2 2 (by decide) (by decide)) (t2 3 (by decide) (by decide))
        have f3 := (t2 3 (by decide) (by decide)).trans g3
        have f4 := g4.of (fun a ha => t2 a (by omega) (by omega))
        have f5 := g5.of (fun a x1 x2 => t2 a (by omega) (by omega))
        have f6 := g6.of (fun a ha => t2 a (by omega) (by omega))
        have f7 := gpt.of (fun a ha => t2 a (by omega) (by omega))
        cases hop : opn w z.ek z.ev z.tg (esQ (srQ w z).1) 0 with
        | true =>
          have hm : mkR w z = (kM z.n z.ln z.ne z.ef z.et z.ek z.ev z.tg z.np z.sg (nI 2) (srQ w z).1 (some (esQ (srQ w z).1)) (inp w z.ek z.ev z.tg (esQ (srQ w z).1) 0)) := by unfold mkR; rw [if_neg (by omega), if_neg (by omega), if_pos hop]
          rw [hm] at K
          obtain ⟨t5, t6⟩ := t4 hop
          refine gx_if_eq X d_PP_makeRound_45 (tgt := 50) (by decide) (fun h45 => ?_) (fun h45 => ?_)
          · exact absurd h45 (by decide)
          · refine gx_iconst X d_PP_makeRound_48 (v := nI 2) (by decide) ?_
            refine gx_iret X hr hA d_PP_makeRound_49 (K _ _ _ ⟨rfl, fun a x1 x2 => by rw [t1 a (by omega)], e42 0 (by decide) (by decide), f1, f2, f3, f4, f5, f6, f7, ⟨Nat.le_trans (inp_len _ _ _ _ _ _) (by omega), t5, t6⟩⟩)
        | false =>
          have hm : mkR w z = (kM z.n z.ln z.ne z.ef z.et z.ek z.ev z.tg (rfn w z.ek z.ev z.tg (esQ (srQ w z).1) (z.np, z.sg)).2.1 (rfn w z.ek z.ev z.tg (esQ (srQ w z).1) (z.np, z.sg)).2.2 (cond (rfn w z.ek z.ev z.tg (esQ (srQ w z).1) (z.np, z.sg)).1 (nI 0) (nI 3)) (srQ w z).1 (some (esQ (srQ w z).1)) []) := by unfold mkR; rw [if_neg (by omega), if_neg (by omega), if_neg (by rw [hop]; decide)]
          rw [hm] at K
          have t5 := t3 hop
          refine gx_if_eq X d_PP_makeRound_45 (tgt := 50) (by decide) (fun h45 => ?_) (fun h45 => ?_)
          · refine gx_aload_n X d_PP_makeRound_50 rfl rfl ?_
            refine gx_getr X d_PP_makeRound_51 (gci in_PP) (HX _ rfl).1 (HX _ rfl).2 rfl 8 (by decide) (gcw X lk_PP_80) (fun _ h => h) rfl ?_
            refine gx_callV X d_PP_makeRound_54 mf_Rf_refine lk_PP_221 (c_Rf_refine HX f1 f5 f4 (hE.of (t2 20 (by decide) (by decide)) (t2 29 (by decide) (by decide)))) (HX _ rfl).1 (HX _ rfl).2 rfl rfl rfl (Nat.le_of_ble_eq_true rfl) ⟨by decide, by decide⟩ ⟨rfl, rfl⟩ ⟨Nat.zero_le _, Nat.zero_le _⟩ (fun r54 F54 L54 hp54 => ?_)
            obtain ⟨rfl, u1, u2, u3⟩ := hp54
            have fin : KO1 F54 w (kM z.n z.ln z.ne z.ef z.et z.ek z.ev z.tg (rfn w z.ek z.ev z.tg (esQ (srQ w z).1) (z.np, z.sg)).2.1 (rfn w z.ek z.ev z.tg (esQ (srQ w z).1) (z.np, z.sg)).2.2 (cond (rfn w z.ek z.ev z.tg (esQ (srQ w z).1) (z.np, z.sg)).1 (nI 0) (nI 3)) (srQ w z).1 (some (esQ (srQ w z).1)) []) := ⟨f1.of (u1 1 (by decide) (by decide)), f2.of (u1 2 (by decide) (by decide)) (u1 3 (by decide) (by decide)), (u1 3 (by decide) (by decide)).trans f3, f4.of (fun a ha => u1 a (by omega) (by omega)), u3, f6.of (fun a ha => u1 a (by omega) (by omega)), f7.of (fun a ha => u1 a (by omega) (by omega)), ⟨Nat.zero_le _, by rw [u1 30 (by decide) (by decide)]; exact t5, fun i hi => absurd hi (Nat.not_lt_zero i)⟩⟩
            have lin : ∀ a, ¬ (200 ≤ a ∧ a < 404) → a ≠ 35 → L54 a = L11 a := fun a x1 x2 => by rw [u2 a x2 (by omega), t1 a (by omega)]
            have e54 : F54 0 = F 0 := (u1 0 (by decide) (by decide)).trans (e42 0 (by decide) (by decide))
            cases hb : (rfn w z.ek z.ev z.tg (esQ (srQ w z).1) (z.np, z.sg)).1 with
            | true =>
              rw [hb] at K fin
              refine gx_if_eq X d_PP_makeRound_57 (tgt := 64) (by decide) (fun h57 => ?_) (fun h57 => ?_)
              · exact absurd h57 (by decide)
              · refine gx_iconst X d_PP_makeRound_60 (v := nI 0) (by decide) ?_
                refine gx_goto X d_PP_makeRound_61 (tgt := 65) (by decide) ?_
                refine gx_iret X hr hA d_PP_makeRound_65 (K _ _ _ ⟨rfl, lin, e54, fin⟩)
            | false =>
              rw [hb] at K fin
              refine gx_if_eq X d_PP_makeRound_57 (tgt := 64) (by decide) (fun h57 => ?_) (fun h57 => ?_)
              · refine gx_iconst X d_PP_makeRound_64 (v := nI 3) (by decide) ?_
                refine gx_iret X hr hA d_PP_makeRound_65 (K _ _ _ ⟨rfl, lin, e54, fin⟩)
              · exact absurd rfl h57
          · exact absurd rfl h45
      · exact absurd ((nI_leI (a := 0) (b := (esQ (srQ w z).1).length) (by decide) (by omega)).mpr (Nat.zero_le _)) h33
    · exact absurd rfl h21
end
