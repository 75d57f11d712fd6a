/-! the reference's search: a node's neighbours (own text) -/
section
variable {l : Launch} {D : va_G} {ca : Nat → ClassId} {ks : List Nat} {lay : Nat → gxE} {ad : Nat → Nat} {F : Nat → Nat → Int32} {L : Nat → Nat → Int64} {N w ne np : Nat} {ef et ek ev : Nat → Nat} {tg : Nat → Nat → Option Nat} {sg : Nat → Nat} {ns : List nd}
theorem nAt_get {k : Nat} (hk : k < ns.length) : nAt ns k = ns[k] := by
  unfold nAt
  rw [List.getD_eq_getElem?_getD, List.getElem?_eq_getElem hk]
  rfl
theorem knw_ex {lc p : Nat} : knw ns lc p = true ↔ ∃ k, k < ns.length ∧ (nAt ns k).1 = lc ∧ (nAt ns k).2.1 = p := by
  unfold knw
  rw [List.any_eq_true]
  constructor
  · rintro ⟨x, hx, hp⟩
    obtain ⟨k, hk, rfl⟩ := List.getElem_of_mem hx
    rw [Bool.and_eq_true] at hp
    refine ⟨k, hk, ?_⟩
    rw [nAt_get hk]
    exact ⟨Nat.eq_of_beq_eq_true hp.1, Nat.eq_of_beq_eq_true hp.2⟩
  · rintro ⟨k, hk, h1, h2⟩
    rw [nAt_get hk] at h1 h2
    exact ⟨ns[k], List.getElem_mem hk, by rw [h1, h2]; simp⟩
/-- the reference's nodes -/
def MrV (F : Nat → Nat → Int32) (ns : List nd) : Prop := ns.length ≤ 200 ∧ F 40 16 = nI ns.length ∧ ∀ k, k < ns.length → F 49 k = nI (nAt ns k).1 ∧ F 50 k = nI (nAt ns k).2.1 ∧ F 51 k = (if k = 0 then -1 else nI (nAt ns k).2.2.1) ∧ F 52 k = (if k = 0 then -1 else nI (nAt ns k).2.2.2.1)
theorem MrV.of {G : Nat → Nat → Int32} (h : MrV F ns) (h16 : G 40 16 = F 40 16) (e : ∀ a, 49 ≤ a ∧ a ≤ 52 → G a = F a) : MrV G ns := by
  unfold MrV
  rw [h16, e 49 (by omega), e 50 (by omega), e 51 (by omega), e 52 (by omega)]
  exact h
theorem MrV.add (h : MrV F ns) (h0 : 0 < ns.length) (hl : ns.length < 200) {to p k e dv : Nat} : MrV (gxu (gxu (gxu (gxu (gxu F 49 ns.length (nI to)) 50 ns.length (nI p)) 51 ns.length (nI k)) 52 ns.length (nI e)) 40 16 (nI (ns.length + 1))) (ns ++ [(to, p, k, e, dv)]) := by
  obtain ⟨h1, h2, h3⟩ := h
  refine ⟨by simp; omega, by rw [gxu_at]; simp, fun j hj => ?_⟩
  simp only [List.length_append, List.length_singleton] at hj
  by_cases hjn : j < ns.length
  · rw [nAt_old hjn]
    obtain ⟨a, b, c, d⟩ := h3 j hjn
    have ne : ¬ j = ns.length := by omega
    refine ⟨?_, ?_, ?_, ?_⟩
    · rw [← a]; simp [gxu, ne]
    · rw [← b]; simp [gxu, ne]
    · rw [← c]; simp [gxu, ne]
    · rw [← d]; simp [gxu, ne]
  · have e1 : j = ns.length := by omega
    subst e1
    rw [nAt_new, if_neg (by omega), if_neg (by omega)]
    refine ⟨?_, ?_, ?_, ?_⟩ <;> simp [gxu]
theorem NsOK.bd {N : Nat} (h : NsOK N np sg ne ns) (hG : MgOK F L N np sg) : ∀ k, k < ns.length → (nAt ns k).1 < 12 ∧ (nAt ns k).2.1 < 4096 := fun k hk => by
  obtain ⟨a, b, -, -⟩ := h.2.2 k hk
  obtain ⟨s, hs, e⟩ := prs_iff.mp b
  exact ⟨a, by rw [← e]; exact hG.lt hs⟩
theorem c_Mo_known (HX : gH ks lay N sM) (hR : MrV F ns) (hB : ∀ k, k < ns.length → (nAt ns k).1 < 12 ∧ (nAt ns k).2.1 < 4096) {lc g : Nat} (hlc : lc < 12) (hg : g < 4096) : Con l y_Mo_known (Cond.code y_Mo_known b_Mo_known 4 (some .boolean) :: WT) rm_Mo_known D vcl ca ks lay ad [xR 40, xI (nI lc), xI (nI g)] F L (fun r F' L' => r = some (xI (cond (knw ns lc g) 1 0)) ∧ F' = F ∧ L' = L) := by
  obtain ⟨h1, h2, h3⟩ := hR
  refine Con.ofK (fun post K => ?_)
  refine Con.of (ls := [(0, xR 40), (1, xI (nI lc)), (2, xI (nI g))]) (by decide) rfl rfl (Nat.le_of_ble_eq_true rfl) ?_
  intro p e s m args below meth c A X hr hA
  refine gx_iconst X d_Mo_known_0 (v := nI 0) (by decide) ?_
  refine gx_istore_n X d_Mo_known_1 rfl (by decide) ?_
  have loop : ∀ (d i : Nat), i + d = ns.length → (∀ k, k < i → ¬ ((nAt ns k).1 = lc ∧ (nAt ns k).2.1 = g)) → GX p l e rm_Mo_known s m args below meth c (MQ below (gxQ D vcl ca ks lay ad s.heap.size post) args s 0 0 (gxA ks ad s.heap.size)) 4 A D vcl ca ks lay ad 0 0 2 [(3, xI (nI i)), (2, xI (nI g)), (1, xI (nI lc)), (0, xR 40)] [] F L := by
    intro d
    induction d with
    | zero =>
      intro i hd hno
      refine gx_iload_n X d_Mo_known_2 rfl rfl ?_
      refine gx_aload_n X d_Mo_known_3 rfl rfl ?_
      refine gx_geti X d_Mo_known_4 (gci in_Mo) (HX _ rfl).1 (HX _ rfl).2 rfl 16 (by decide) (gcw X lk_Mo_123) (fun _ h => h) rfl ?_
      refine gx_top h2 ?_
      refine gx_icmp_ge X d_Mo_known_7 (tgt := 38) (by decide) (fun h7 => ?_) (fun h7 => ?_)
      · have hkn : knw ns lc g = false := by
          cases hb : knw ns lc g with
          | false => rfl
          | true =>
            obtain ⟨k, a, b⟩ := knw_ex.mp hb
            exact absurd b (hno k (by omega))
        refine gx_iconst X d_Mo_known_38 (v := nI 0) (by decide) ?_
        refine gx_zret X hr (by first | rfl | decide) hA d_Mo_known_39 (K _ _ _ ⟨by rw [hkn]; rfl, rfl, rfl⟩)
      · exact absurd ((nI_leI (by omega) (by omega)).mpr (by omega)) h7
    | succ d ih =>
      intro i hd hno
      obtain ⟨a1, a2, -, -⟩ := h3 i (by omega)
      obtain ⟨b1, b2⟩ := hB i (by omega)
      refine gx_iload_n X d_Mo_known_2 rfl rfl ?_
      refine gx_aload_n X d_Mo_known_3 rfl rfl ?_
      refine gx_geti X d_Mo_known_4 (gci in_Mo) (HX _ rfl).1 (HX _ rfl).2 rfl 16 (by decide) (gcw X lk_Mo_123) (fun _ h => h) rfl ?_
      refine gx_top h2 ?_
      refine gx_icmp_ge X d_Mo_known_7 (tgt := 38) (by decide) (fun h7 => ?_) (fun h7 => ?_)
      · exact absurd ((nI_leI (by omega) (by omega)).mp h7) (by omega)
      · have next : ¬ ((nAt ns i).1 = lc ∧ (nAt ns i).2.1 = g) → GX p l e rm_Mo_known s m args below meth c (MQ below (gxQ D vcl ca ks lay ad s.heap.size post) args s 0 0 (gxA ks ad s.heap.size)) 4 A D vcl ca ks lay ad 0 0 32 [(3, xI (nI i)), (2, xI (nI g)), (1, xI (nI lc)), (0, xR 40)] [] F L := by
          intro hx
          refine gx_iinc X d_Mo_known_32 rfl (pu_inc _) ?_
          refine gx_goto X d_Mo_known_35 (tgt := 2) (by decide) ?_
          refine gx_el (ih (i + 1) (by omega) (fun k hk => ?_)) ⟨rfl, rfl, rfl, rfl, trivial⟩
          by_cases e1 : k = i
          · rw [e1]; exact hx
          · exact hno k (by omega)
        refine gx_aload_n X d_Mo_known_10 rfl rfl ?_
        refine gx_getr X d_Mo_known_11 (gci in_Mo) (HX _ rfl).1 (HX _ rfl).2 rfl 17 (by decide) (gcw X lk_Mo_39) (fun _ h => h) rfl ?_
        refine gx_iload_n X d_Mo_known_14 rfl rfl ?_
        refine gx_iald X d_Mo_known_15 (HX _ rfl).1 (HX _ rfl).2 rfl (by omega) (by omega) ?_
        refine gx_top a1 ?_
        refine gx_iload_n X d_Mo_known_16 rfl rfl ?_
        refine gx_icmp_ne X d_Mo_known_17 (tgt := 32) (by decide) (fun h17 => ?_) (fun h17 => ?_)
        · exact gx_el (next (fun z => h17 (by rw [z.1]))) ⟨rfl, rfl, rfl, rfl, trivial⟩
        · refine gx_aload_n X d_Mo_known_20 rfl rfl ?_
          refine gx_getr X d_Mo_known_21 (gci in_Mo) (HX _ rfl).1 (HX _ rfl).2 rfl 18 (by decide) (gcw X lk_Mo_42) (fun _ h => h) rfl ?_
          refine gx_iload_n X d_Mo_known_24 rfl rfl ?_
          refine gx_iald X d_Mo_known_25 (HX _ rfl).1 (HX _ rfl).2 rfl (by omega) (by omega) ?_
          refine gx_top a2 ?_
          refine gx_iload_n X d_Mo_known_26 rfl rfl ?_
          refine gx_icmp_ne X d_Mo_known_27 (tgt := 32) (by decide) (fun h27 => ?_) (fun h27 => ?_)
          · exact gx_el (next (fun z => h27 (by rw [z.2]))) ⟨rfl, rfl, rfl, rfl, trivial⟩
          · have hkn : knw ns lc g = true := knw_ex.mpr ⟨i, by omega, (nI_eq (by omega) (by omega)).mp h17, (nI_eq (by omega) (by omega)).mp h27⟩
            refine gx_iconst X d_Mo_known_30 (v := nI 1) (by decide) ?_
            refine gx_zret X hr (by first | rfl | decide) hA d_Mo_known_31 (K _ _ _ ⟨by rw [hkn]; rfl, rfl, rfl⟩)
  exact gx_el (loop ns.length 0 (by omega) (fun k hk => absurd hk (Nat.not_lt_zero k))) ⟨rfl, rfl, rfl, rfl, trivial⟩
/-- what stands behind a spreading -/
def SpQ (F F' : Nat → Nat → Int32) (N np : Nat) (sg : Nat → Nat) (ne : Nat) (z : List nd × Nat) : Prop := (∀ a, a ≠ 40 → ¬ (49 ≤ a ∧ a ≤ 52) → a ≠ 55 → F' a = F a) ∧ (∀ j, j ≠ 15 → j ≠ 16 → F' 40 j = F 40 j) ∧ MrV F' z.1 ∧ NsOK N np sg ne z.1 ∧ F' 40 15 = (if z.2 = 1 then nI 3 else F 40 15)
set_option maxHeartbeats 8000000 in
theorem c_Mo_spread (HX : gH ks lay N sM) (hS : MsOK F w) (hE : MeOK F L w ne ef et ek ev tg) (hG : MgOK F L (2 ^ (3 * w)) np sg) (hNs : NsOK (2 ^ (3 * w)) np sg ne ns) (hR : MrV F ns) {kk e0 : Nat} (hk : kk < ns.length) (he : e0 < ne) : Con l y_Mo_spread (Cond.code y_Mo_spread b_Mo_spread 4 (some .boolean) :: WT) rm_Mo_spread D vcl ca ks lay ad [xR 40, xI (nI kk), xI (nI e0)] F L (fun r F' L' => r = some (xI (cond (decide ((sprP (rchB (2 ^ (3 * w)) w ek ev tg sg e0 (nAt ns kk).2.1) (et e0) kk e0 (nAt ns kk).2.2.2.2 (2 ^ np) 0 ns).2 = 0)) 1 0)) ∧ L' = L ∧ SpQ F F' (2 ^ (3 * w)) np sg ne (sprP (rchB (2 ^ (3 * w)) w ek ev tg sg e0 (nAt ns kk).2.1) (et e0) kk e0 (nAt ns kk).2.2.2.2 (2 ^ np) 0 ns)) := by
  have hw : w < 4 := by have := hS.1; omega
  have hN := pu_N w hw
  have hnp := hG.1
  have hp12 := pw12 np hnp
  have h20 := hE.1
  obtain ⟨-, ⟨ht, ht12⟩, -, -, -⟩ := hE.2.2 e0 he
  have hp0 := (hNs.bd hG kk hk).2
  have hsign := (hR.2.2 kk hk).2.1
  have hlen := hR.1
  have hsh := sh1 np (by omega)
  have hRp : ∀ g, rchB (2 ^ (3 * w)) w ek ev tg sg e0 (nAt ns kk).2.1 g = true ↔ ∃ s, s < 2 ^ (3 * w) ∧ sg s = (nAt ns kk).2.1 ∧ lds w ek ev tg sg e0 s g := by
    intro g
    rw [rchB_iff]
    constructor
    · rintro ⟨s, y, u, c1, c2, c3, c4, c5⟩
      exact ⟨s, c1, c2, y, u, c3, c4, c5⟩
    · rintro ⟨s, c1, c2, y, u, c3, c4, c5⟩
      exact ⟨s, y, u, c1, c2, c3, c4, c5⟩
  have hprs : ∀ g, rchB (2 ^ (3 * w)) w ek ev tg sg e0 (nAt ns kk).2.1 g = true → prs (2 ^ (3 * w)) sg g = true := by
    intro g hg
    obtain ⟨s, y, u, c1, c2, c3, c4, c5⟩ := rchB_iff.mp hg
    obtain ⟨-, -, ⟨-, hk3⟩, ⟨-, hv3⟩, hx⟩ := hE.2.2 e0 he
    refine prs_iff.mpr ⟨u, ?_, c5⟩
    unfold stp at c4
    by_cases e2 : ek e0 = 2
    · rw [if_pos e2] at c4
      cases c4
      exact wr_lt' hw hv3 c1
    · rw [if_neg e2] at c4
      exact (hx s c1).1 u c4
  generalize (nAt ns kk).2.1 = p0 at *
  generalize rchB (2 ^ (3 * w)) w ek ev tg sg e0 p0 = R at *
  generalize hdk : (nAt ns kk).2.2.2.2 = dk
  generalize hz : sprP R (et e0) kk e0 dk (2 ^ np) 0 ns = z
  refine Con.ofK (fun post K => ?_)
  refine Con.of (ls := [(0, xR 40), (1, xI (nI kk)), (2, xI (nI e0))]) (by decide) rfl rfl (Nat.le_of_ble_eq_true rfl) ?_
  intro p e s m args below meth c A X hr hA
  have loop3 : ∀ (d g : Nat) (n1 : List nd) (G : Nat → Nat → Int32), g + d = 2 ^ np → (∀ a, a ≠ 40 → ¬ (49 ≤ a ∧ a ≤ 52) → a ≠ 55 → G a = F a) → (∀ j, j ≠ 15 → j ≠ 16 → G 40 j = F 40 j) → G 40 15 = F 40 15 → (∀ g', g' < 2 ^ np → G 55 g' = cond (R g') (nI 1) (nI 0)) → MrV G n1 → NsOK (2 ^ (3 * w)) np sg ne n1 → kk < n1.length → (nAt n1 kk).2.2.2.2 = dk → sprP R (et e0) kk e0 dk d g n1 = z → GX p l e rm_Mo_spread s m args below meth c (MQ below (gxQ D vcl ca ks lay ad s.heap.size post) args s 0 0 (gxA ks ad s.heap.size)) 4 A D vcl ca ks lay ad 0 0 64 [(3, xI (nI g)), (2, xI (nI e0)), (1, xI (nI kk)), (0, xR 40)] [] G L := by
    intro d
    induction d with
    | zero =>
      intro g n1 G hd f1 f2 f3 f4 f5 f6 f7 f8 hres
      rw [sprP] at hres
      have g12 : G 40 12 = nI np := (f2 12 (by decide) (by decide)).trans hG.2.1
      refine gx_iload_n X d_Mo_spread_64 rfl rfl ?_
      refine gx_iconst X d_Mo_spread_65 (v := nI 1) (by decide) ?_
      refine gx_aload_n X d_Mo_spread_66 rfl rfl ?_
      refine gx_geti X d_Mo_spread_67 (gci in_Mo) (HX _ rfl).1 (HX _ rfl).2 rfl 12 (by decide) (gcw X lk_Mo_155) (fun _ h => h) rfl ?_
      refine gx_top g12 ?_
      refine gx_ishl X d_Mo_spread_70 ?_
      refine gx_top hsh ?_
      refine gx_icmp_ge X d_Mo_spread_71 (tgt := 190) (by decide) (fun h71 => ?_) (fun h71 => ?_)
      · subst hres
        refine gx_iconst X d_Mo_spread_190 (v := nI 1) (by decide) ?_
        refine gx_zret X hr (by first | rfl | decide) hA d_Mo_spread_191 (K _ _ _ ⟨rfl, rfl, f1, f2, f5, f6, by rw [if_neg (show ¬ (0 : Nat) = 1 by decide)]; exact f3⟩)
      · exact absurd ((nI_leI (by omega) (by omega)).mpr (by omega)) h71
    | succ d ih =>
      intro g n1 G hd f1 f2 f3 f4 f5 f6 f7 f8 hres
      rw [sprP] at hres
      have g12 : G 40 12 = nI np := (f2 12 (by decide) (by decide)).trans hG.2.1
      have gt : G 43 e0 = nI (et e0) := by rw [f1 43 (by decide) (by decide) (by decide)]; exact ht
      have gl := f5.1
      have g0 := f6.1
      refine gx_iload_n X d_Mo_spread_64 rfl rfl ?_
      refine gx_iconst X d_Mo_spread_65 (v := nI 1) (by decide) ?_
      refine gx_aload_n X d_Mo_spread_66 rfl rfl ?_
      refine gx_geti X d_Mo_spread_67 (gci in_Mo) (HX _ rfl).1 (HX _ rfl).2 rfl 12 (by decide) (gcw X lk_Mo_155) (fun _ h => h) rfl ?_
      refine gx_top g12 ?_
      refine gx_ishl X d_Mo_spread_70 ?_
      refine gx_top hsh ?_
      refine gx_icmp_ge X d_Mo_spread_71 (tgt := 190) (by decide) (fun h71 => ?_) (fun h71 => ?_)
      · exact absurd ((nI_leI (by omega) (by omega)).mp h71) (by omega)
      · refine gx_aload_n X d_Mo_spread_74 rfl rfl ?_
        refine gx_getr X d_Mo_spread_75 (gci in_Mo) (HX _ rfl).1 (HX _ rfl).2 rfl 25 (by decide) (gcw X lk_Mo_60) (fun _ h => h) rfl ?_
        refine gx_iload_n X d_Mo_spread_78 rfl rfl ?_
        refine gx_iald X d_Mo_spread_79 (HX _ rfl).1 (HX _ rfl).2 rfl (by omega) (by omega) ?_
        refine gx_top (f4 g (by omega)) ?_
        cases hRg : R g with
        | false =>
          rw [if_neg (fun q => by rw [hRg] at q; cases q.1)] at hres
          refine gx_if_eq X d_Mo_spread_80 (tgt := 184) (by decide) (fun h80 => ?_) (fun h80 => ?_)
          · refine gx_iinc X d_Mo_spread_184 rfl (pu_inc _) ?_
            refine gx_goto X d_Mo_spread_187 (tgt := 64) (by decide) ?_
            exact gx_el (ih (g + 1) n1 G (by omega) f1 f2 f3 f4 f5 f6 f7 f8 hres) ⟨rfl, rfl, rfl, rfl, trivial⟩
          · exact absurd rfl h80
        | true =>
          refine gx_if_eq X d_Mo_spread_80 (tgt := 184) (by decide) (fun h80 => ?_) (fun h80 => ?_)
          · exact absurd h80 (by decide)
          · refine gx_aload_n X d_Mo_spread_83 rfl rfl ?_
            refine gx_aload_n X d_Mo_spread_84 rfl rfl ?_
            refine gx_getr X d_Mo_spread_85 (gci in_Mo) (HX _ rfl).1 (HX _ rfl).2 rfl 8 (by decide) (gcw X lk_Mo_16) (fun _ h => h) rfl ?_
            refine gx_iload_n X d_Mo_spread_88 rfl rfl ?_
            refine gx_iald X d_Mo_spread_89 (HX _ rfl).1 (HX _ rfl).2 rfl (by omega) (by omega) ?_
            refine gx_top gt ?_
            refine gx_iload_n X d_Mo_spread_90 rfl rfl ?_
            refine gx_callV X d_Mo_spread_91 mf_Mo_known lk_Mo_171 (c_Mo_known HX f5 (f6.bd hG) (lc := et e0) (g := g) ht12 (by omega)) (HX _ rfl).1 (HX _ rfl).2 rfl rfl rfl (Nat.le_of_ble_eq_true rfl) ⟨by decide, by decide⟩ ⟨rfl, rfl⟩ ⟨Nat.zero_le _, Nat.zero_le _⟩ (fun r91 F91 L91 hp91 => ?_)
            obtain ⟨rfl, rfl, rfl⟩ := hp91
            cases hkn : knw n1 (et e0) g with
            | true =>
              rw [if_neg (fun q => by rw [hkn] at q; cases q.2)] at hres
              refine gx_if_eq X d_Mo_spread_94 (tgt := 100) (by decide) (fun h94 => ?_) (fun h94 => ?_)
              · exact absurd h94 (by decide)
              · refine gx_goto X d_Mo_spread_97 (tgt := 184) (by decide) ?_
                refine gx_iinc X d_Mo_spread_184 rfl (pu_inc _) ?_
                refine gx_goto X d_Mo_spread_187 (tgt := 64) (by decide) ?_
                exact gx_el (ih (g + 1) n1 F91 (by omega) f1 f2 f3 f4 f5 f6 f7 f8 hres) ⟨rfl, rfl, rfl, rfl, trivial⟩
            | false =>
              rw [if_pos ⟨hRg, hkn⟩] at hres
              refine gx_if_eq X d_Mo_spread_94 (tgt := 100) (by decide) (fun h94 => ?_) (fun h94 => ?_)
              · refine gx_aload_n X d_Mo_spread_100 rfl rfl ?_
                refine gx_geti X d_Mo_spread_101 (gci in_Mo) (HX _ rfl).1 (HX _ rfl).2 rfl 16 (by decide) (gcw X lk_Mo_123) (fun _ h => h) rfl ?_
                refine gx_top f5.2.1 ?_
                refine gx_sipush X d_Mo_spread_104 (v := nI 200) (by decide) ?_
                refine gx_icmp_ne X d_Mo_spread_107 (tgt := 117) (by decide) (fun h107 => ?_) (fun h107 => ?_)
                · have hne2 : ¬ n1.length = 200 := fun q => h107 (by rw [q])
                  have hlt : n1.length < 200 := by omega
                  rw [if_neg hne2] at hres
                  refine gx_aload_n X d_Mo_spread_117 rfl rfl ?_
                  refine gx_getr X d_Mo_spread_118 (gci in_Mo) (HX _ rfl).1 (HX _ rfl).2 rfl 17 (by decide) (gcw X lk_Mo_39) (fun _ h => h) rfl ?_
                  refine gx_aload_n X d_Mo_spread_121 rfl rfl ?_
                  refine gx_geti X d_Mo_spread_122 (gci in_Mo) (HX _ rfl).1 (HX _ rfl).2 rfl 16 (by decide) (gcw X lk_Mo_123) (fun _ h => h) rfl ?_
                  refine gx_top f5.2.1 ?_
                  refine gx_aload_n X d_Mo_spread_125 rfl rfl ?_
                  refine gx_getr X d_Mo_spread_126 (gci in_Mo) (HX _ rfl).1 (HX _ rfl).2 rfl 8 (by decide) (gcw X lk_Mo_16) (fun _ h => h) rfl ?_
                  refine gx_iload_n X d_Mo_spread_129 rfl rfl ?_
                  refine gx_iald X d_Mo_spread_130 (HX _ rfl).1 (HX _ rfl).2 rfl (by omega) (by omega) ?_
                  refine gx_top gt ?_
                  refine gx_iast X d_Mo_spread_131 (HX _ rfl).1 (HX _ rfl).2 rfl (by omega) (by omega) ?_
                  refine gx_aload_n X d_Mo_spread_132 rfl rfl ?_
                  refine gx_getr X d_Mo_spread_133 (gci in_Mo) (HX _ rfl).1 (HX _ rfl).2 rfl 18 (by decide) (gcw X lk_Mo_42) (fun _ h => h) rfl ?_
                  refine gx_aload_n X d_Mo_spread_136 rfl rfl ?_
                  refine gx_geti X d_Mo_spread_137 (gci in_Mo) (HX _ rfl).1 (HX _ rfl).2 rfl 16 (by decide) (gcw X lk_Mo_123) (fun _ h => h) rfl ?_
                  refine gx_top (y := nI n1.length) (by rw [gxu_cell (by decide)]; exact f5.2.1) ?_
                  refine gx_iload_n X d_Mo_spread_140 rfl rfl ?_
                  refine gx_iast X d_Mo_spread_141 (HX _ rfl).1 (HX _ rfl).2 rfl (by omega) (by omega) ?_
                  refine gx_aload_n X d_Mo_spread_142 rfl rfl ?_
                  refine gx_getr X d_Mo_spread_143 (gci in_Mo) (HX _ rfl).1 (HX _ rfl).2 rfl 19 (by decide) (gcw X lk_Mo_45) (fun _ h => h) rfl ?_
                  refine gx_aload_n X d_Mo_spread_146 rfl rfl ?_
                  refine gx_geti X d_Mo_spread_147 (gci in_Mo) (HX _ rfl).1 (HX _ rfl).2 rfl 16 (by decide) (gcw X lk_Mo_123) (fun _ h => h) rfl ?_
                  refine gx_top (y := nI n1.length) (by rw [gxu_cell (by decide), gxu_cell (by decide)]; exact f5.2.1) ?_
                  refine gx_iload_n X d_Mo_spread_150 rfl rfl ?_
                  refine gx_iast X d_Mo_spread_151 (HX _ rfl).1 (HX _ rfl).2 rfl (by omega) (by omega) ?_
                  refine gx_aload_n X d_Mo_spread_152 rfl rfl ?_
                  refine gx_getr X d_Mo_spread_153 (gci in_Mo) (HX _ rfl).1 (HX _ rfl).2 rfl 20 (by decide) (gcw X lk_Mo_48) (fun _ h => h) rfl ?_
                  refine gx_aload_n X d_Mo_spread_156 rfl rfl ?_
                  refine gx_geti X d_Mo_spread_157 (gci in_Mo) (HX _ rfl).1 (HX _ rfl).2 rfl 16 (by decide) (gcw X lk_Mo_123) (fun _ h => h) rfl ?_
                  refine gx_top (y := nI n1.length) (by rw [gxu_cell (by decide), gxu_cell (by decide), gxu_cell (by decide)]; exact f5.2.1) ?_
                  refine gx_iload_n X d_Mo_spread_160 rfl rfl ?_
                  refine gx_iast X d_Mo_spread_161 (HX _ rfl).1 (HX _ rfl).2 rfl (by omega) (by omega) ?_
                  refine gx_aload_n X d_Mo_spread_162 rfl rfl ?_
                  refine gx_dup X d_Mo_spread_163 rfl ?_
                  refine gx_geti X d_Mo_spread_164 (gci in_Mo) (HX _ rfl).1 (HX _ rfl).2 rfl 16 (by decide) (gcw X lk_Mo_123) (fun _ h => h) rfl ?_
                  refine gx_top (y := nI n1.length) (by rw [gxu_cell (by decide), gxu_cell (by decide), gxu_cell (by decide), gxu_cell (by decide)]; exact f5.2.1) ?_
                  refine gx_iconst X d_Mo_spread_167 (v := nI 1) (by decide) ?_
                  refine gx_iadd X d_Mo_spread_168 ?_
                  refine gx_top (nI_add n1.length 1) ?_
                  refine gx_puti X d_Mo_spread_169 (gci in_Mo) (HX _ rfl).1 (HX _ rfl).2 rfl 16 (by decide) (gcw X lk_Mo_123) (fun _ h => h) t_Mo ty_Mo nm_Mo rfl (ty_Mo 16 (by decide)) rfl rfl rfl ?_
                  refine gx_aload_n X d_Mo_spread_172 rfl rfl ?_
                  refine gx_getr X d_Mo_spread_173 (gci in_Mo) (HX _ rfl).1 (HX _ rfl).2 rfl 8 (by decide) (gcw X lk_Mo_16) (fun _ h => h) rfl ?_
                  refine gx_iload_n X d_Mo_spread_176 rfl rfl ?_
                  refine gx_iald X d_Mo_spread_177 (HX _ rfl).1 (HX _ rfl).2 rfl (by omega) (by omega) ?_
                  refine gx_top (y := nI (et e0)) (by rw [gxu_cell (by decide), gxu_cell (by decide), gxu_cell (by decide), gxu_cell (by decide), gxu_cell (by decide)]; exact gt) ?_
                  have m1 := f5.add g0 hlt (to := et e0) (p := g) (k := kk) (e := e0) (dv := dk + 1)
                  have m2 := f6.add hlt ht12 (hprs g hRg) f7 he
                  rw [f8] at m2
                  generalize hFx : gxu (gxu (gxu (gxu (gxu F91 49 n1.length (nI (et e0))) 50 n1.length (nI g)) 51 n1.length (nI kk)) 52 n1.length (nI e0)) 40 16 (nI (n1.length + 1)) = Fx at m1
                  have x1 : ∀ a, a ≠ 40 → ¬ (49 ≤ a ∧ a ≤ 52) → Fx a = F91 a := fun a b1 b2 => by
                    rw [← hFx, gxu_cell b1, gxu_cell (by omega), gxu_cell (by omega), gxu_cell (by omega), gxu_cell (by omega)]
                  have x2 : ∀ j, j ≠ 16 → Fx 40 j = F91 40 j := fun j b1 => by
                    rw [← hFx, gxu_ne (fun q => b1 q.2), gxu_cell (by decide), gxu_cell (by decide), gxu_cell (by decide), gxu_cell (by decide)]
                  refine gx_iconst X d_Mo_spread_178 (v := nI 1) (by decide) ?_
                  refine gx_icmp_ne X d_Mo_spread_179 (tgt := 184) (by decide) (fun h179 => ?_) (fun h179 => ?_)
                  · have he1 : ¬ et e0 = 1 := fun q => h179 (by rw [q])
                    rw [if_neg he1] at hres
                    refine gx_iinc X d_Mo_spread_184 rfl (pu_inc _) ?_
                    refine gx_goto X d_Mo_spread_187 (tgt := 64) (by decide) ?_
                    refine gx_el (ih (g + 1) _ Fx (by omega) (fun a b1 b2 b3 => by rw [x1 a b1 b2]; exact f1 a b1 b2 b3) (fun j b1 b2 => by rw [x2 j b2]; exact f2 j b1 b2) (by rw [x2 15 (by decide)]; exact f3) (fun g' hg' => by rw [x1 55 (by decide) (by decide)]; exact f4 g' hg') m1 m2 (by simp; omega) (by rw [nAt_old f7]; exact f8) hres) ⟨rfl, rfl, rfl, rfl, trivial⟩
                  · have he1 : et e0 = 1 := (nI_eq (by omega) (by decide)).mp h179
                    rw [if_pos he1] at hres
                    subst hres
                    refine gx_iconst X d_Mo_spread_182 (v := nI 0) (by decide) ?_
                    refine gx_zret X hr (by first | rfl | decide) hA d_Mo_spread_183 (K _ _ _ ⟨rfl, rfl, fun a b1 b2 b3 => by rw [x1 a b1 b2]; exact f1 a b1 b2 b3, fun j b1 b2 => by rw [x2 j b2]; exact f2 j b1 b2, m1, m2, by rw [if_neg (show ¬ (2 : Nat) = 1 by decide), x2 15 (by decide)]; exact f3⟩)
                · have he2 : n1.length = 200 := (nI_eq (by omega) (by decide)).mp h107
                  rw [if_pos he2] at hres
                  subst hres
                  refine gx_aload_n X d_Mo_spread_110 rfl rfl ?_
                  refine gx_iconst X d_Mo_spread_111 (v := nI 3) (by decide) ?_
                  refine gx_puti X d_Mo_spread_112 (gci in_Mo) (HX _ rfl).1 (HX _ rfl).2 rfl 15 (by decide) (gcw X lk_Mo_35) (fun _ h => h) t_Mo ty_Mo nm_Mo rfl (ty_Mo 15 (by decide)) rfl rfl rfl ?_
                  refine gx_iconst X d_Mo_spread_115 (v := nI 0) (by decide) ?_
                  refine gx_zret X hr (by first | rfl | decide) hA d_Mo_spread_116 (K _ _ _ ⟨rfl, rfl, fun a b1 b2 b3 => by rw [gxu_cell b1]; exact f1 a b1 b2 b3, fun j b1 b2 => by rw [gxu_ne (fun q => b1 q.2)]; exact f2 j b1 b2, f5.of (gxu_ne (by decide)) (fun a b1 => gxu_cell (by omega)), f6, by rw [if_pos rfl, gxu_at]⟩)
              · exact absurd rfl h94
  have loop2 : ∀ (d i : Nat) (G : Nat → Nat → Int32), i + d = 2 ^ (3 * w) → (∀ a, a ≠ 55 → G a = F a) → (∀ g, (∃ s, s < i ∧ sg s = p0 ∧ lds w ek ev tg sg e0 s g) → G 55 g = nI 1) → (∀ g, g < 2 ^ np → ¬ (∃ s, s < i ∧ sg s = p0 ∧ lds w ek ev tg sg e0 s g) → G 55 g = nI 0) → GX p l e rm_Mo_spread s m args below meth c (MQ below (gxQ D vcl ca ks lay ad s.heap.size post) args s 0 0 (gxA ks ad s.heap.size)) 4 A D vcl ca ks lay ad 0 0 27 [(3, xI (nI i)), (2, xI (nI e0)), (1, xI (nI kk)), (0, xR 40)] [] G L := by
    intro d
    induction d with
    | zero =>
      intro i G hd f1 f2 f3
      have hi : i = 2 ^ (3 * w) := by omega
      refine gx_iload_n X d_Mo_spread_27 rfl rfl ?_
      refine gx_aload_n X d_Mo_spread_28 rfl rfl ?_
      refine gx_geti X d_Mo_spread_29 (gci in_Mo) (HX _ rfl).1 (HX _ rfl).2 rfl 2 (by decide) (gcw X lk_Mo_82) (fun _ h => h) rfl ?_
      refine gx_top (y := nI (2 ^ (3 * w))) (by rw [f1 40 (by decide)]; exact hS.2.2.2) ?_
      refine gx_icmp_ge X d_Mo_spread_32 (tgt := 62) (by decide) (fun h32 => ?_) (fun h32 => ?_)
      · refine gx_iconst X d_Mo_spread_62 (v := nI 0) (by decide) ?_
        refine gx_istore_n X d_Mo_spread_63 rfl (by decide) ?_
        refine gx_el (loop3 (2 ^ np) 0 ns G (by omega) (fun a b1 b2 b3 => f1 a b3) (fun j b1 b2 => by rw [f1 40 (by decide)]) (by rw [f1 40 (by decide)]) (fun g' hg' => ?_) (hR.of (by rw [f1 40 (by decide)]) (fun a b1 => f1 a (by omega))) hNs hk hdk hz) ⟨rfl, rfl, rfl, rfl, trivial⟩
        cases hb : R g' with
        | true =>
          obtain ⟨s, c1, c2, c3⟩ := (hRp g').mp hb
          exact f2 g' ⟨s, by omega, c2, c3⟩
        | false =>
          refine f3 g' hg' (fun ⟨s, c1, c2, c3⟩ => ?_)
          rw [(hRp g').mpr ⟨s, by omega, c2, c3⟩] at hb
          cases hb
      · exact absurd ((nI_leI (by omega) (by omega)).mpr (by omega)) h32
    | succ d ih =>
      intro i G hd f1 f2 f3
      have hiN : i < 2 ^ (3 * w) := by omega
      have hsl := hG.lt hiN
      refine gx_iload_n X d_Mo_spread_27 rfl rfl ?_
      refine gx_aload_n X d_Mo_spread_28 rfl rfl ?_
      refine gx_geti X d_Mo_spread_29 (gci in_Mo) (HX _ rfl).1 (HX _ rfl).2 rfl 2 (by decide) (gcw X lk_Mo_82) (fun _ h => h) rfl ?_
      refine gx_top (y := nI (2 ^ (3 * w))) (by rw [f1 40 (by decide)]; exact hS.2.2.2) ?_
      refine gx_icmp_ge X d_Mo_spread_32 (tgt := 62) (by decide) (fun h32 => ?_) (fun h32 => ?_)
      · exact absurd ((nI_leI (by omega) (by omega)).mp h32) (by omega)
      · refine gx_aload_n X d_Mo_spread_35 rfl rfl ?_
        refine gx_getr X d_Mo_spread_36 (gci in_Mo) (HX _ rfl).1 (HX _ rfl).2 rfl 14 (by decide) (gcw X lk_Mo_32) (fun _ h => h) rfl ?_
        refine gx_iload_n X d_Mo_spread_39 rfl rfl ?_
        refine gx_iald X d_Mo_spread_40 (HX _ rfl).1 (HX _ rfl).2 rfl (by omega) (by omega) ?_
        refine gx_top (y := nI (sg i)) (by rw [f1 48 (by decide)]; exact (hG.2.2 i hiN).1) ?_
        refine gx_aload_n X d_Mo_spread_41 rfl rfl ?_
        refine gx_getr X d_Mo_spread_42 (gci in_Mo) (HX _ rfl).1 (HX _ rfl).2 rfl 18 (by decide) (gcw X lk_Mo_42) (fun _ h => h) rfl ?_
        refine gx_iload_n X d_Mo_spread_45 rfl rfl ?_
        refine gx_iald X d_Mo_spread_46 (HX _ rfl).1 (HX _ rfl).2 rfl (by omega) (by omega) ?_
        refine gx_top (y := nI p0) (by rw [f1 50 (by decide)]; exact hsign) ?_
        refine gx_icmp_ne X d_Mo_spread_47 (tgt := 56) (by decide) (fun h47 => ?_) (fun h47 => ?_)
        · have hne2 : ¬ sg i = p0 := fun q => h47 (by rw [q])
          refine gx_iinc X d_Mo_spread_56 rfl (pu_inc _) ?_
          refine gx_goto X d_Mo_spread_59 (tgt := 27) (by decide) ?_
          refine gx_el (ih (i + 1) G (by omega) f1 (fun g hg => ?_) (fun g hg hno => ?_)) ⟨rfl, rfl, rfl, rfl, trivial⟩
          · obtain ⟨s, c1, c2, c3⟩ := hg
            have : s ≠ i := fun q => hne2 (by rw [← q]; exact c2)
            exact f2 g ⟨s, by omega, c2, c3⟩
          · exact f3 g hg (fun ⟨s, c1, c2, c3⟩ => hno ⟨s, by omega, c2, c3⟩)
        · have he2 : sg i = p0 := (nI_eq (by omega) (by omega)).mp h47
          refine gx_aload_n X d_Mo_spread_50 rfl rfl ?_
          refine gx_iload_n X d_Mo_spread_51 rfl rfl ?_
          refine gx_iload_n X d_Mo_spread_52 rfl rfl ?_
          refine gx_callV X d_Mo_spread_53 mf_Mo_mark lk_Mo_168 (c_Mo_mark HX (show MsOK G w by unfold MsOK; rw [f1 40 (by decide)]; exact hS) (hE.of (by rw [f1 40 (by decide)]) (fun a b1 => f1 a (by omega)) rfl) (hG.of (by rw [f1 40 (by decide)]) (f1 48 (by decide)) rfl) he hiN) (HX _ rfl).1 (HX _ rfl).2 rfl rfl rfl (Nat.le_of_ble_eq_true rfl) ⟨by decide, by decide⟩ ⟨rfl, rfl⟩ ⟨Nat.zero_le _, Nat.zero_le _⟩ (fun r53 F53 L53 hp53 => ?_)
          obtain ⟨rfl, rfl, m1, m2, m3⟩ := hp53
          refine gx_iinc X d_Mo_spread_56 rfl (pu_inc _) ?_
          refine gx_goto X d_Mo_spread_59 (tgt := 27) (by decide) ?_
          refine gx_el (ih (i + 1) F53 (by omega) (fun a ha => by rw [m1 a ha]; exact f1 a ha) (fun g hg => ?_) (fun g hg hno => ?_)) ⟨rfl, rfl, rfl, rfl, trivial⟩
          · by_cases hl : lds w ek ev tg sg e0 i g
            · exact m2 g hl
            · rw [m3 g hl]
              obtain ⟨s, c1, c2, c3⟩ := hg
              have : s ≠ i := fun q => hl (by rw [← q]; exact c3)
              exact f2 g ⟨s, by omega, c2, c3⟩
          · rw [m3 g (fun q => hno ⟨i, by omega, he2, q⟩)]
            exact f3 g hg (fun ⟨s, c1, c2, c3⟩ => hno ⟨s, by omega, c2, c3⟩)
  have loop1 : ∀ (d i : Nat) (G : Nat → Nat → Int32), i + d = 2 ^ np → (∀ a, a ≠ 55 → G a = F a) → (∀ g, g < i → G 55 g = nI 0) → GX p l e rm_Mo_spread s m args below meth c (MQ below (gxQ D vcl ca ks lay ad s.heap.size post) args s 0 0 (gxA ks ad s.heap.size)) 4 A D vcl ca ks lay ad 0 0 2 [(3, xI (nI i)), (2, xI (nI e0)), (1, xI (nI kk)), (0, xR 40)] [] G L := by
    intro d
    induction d with
    | zero =>
      intro i G hd f1 f2
      refine gx_iload_n X d_Mo_spread_2 rfl rfl ?_
      refine gx_iconst X d_Mo_spread_3 (v := nI 1) (by decide) ?_
      refine gx_aload_n X d_Mo_spread_4 rfl rfl ?_
      refine gx_geti X d_Mo_spread_5 (gci in_Mo) (HX _ rfl).1 (HX _ rfl).2 rfl 12 (by decide) (gcw X lk_Mo_155) (fun _ h => h) rfl ?_
      refine gx_top (y := nI np) (by rw [f1 40 (by decide)]; exact hG.2.1) ?_
      refine gx_ishl X d_Mo_spread_8 ?_
      refine gx_top hsh ?_
      refine gx_icmp_ge X d_Mo_spread_9 (tgt := 25) (by decide) (fun h9 => ?_) (fun h9 => ?_)
      · refine gx_iconst X d_Mo_spread_25 (v := nI 0) (by decide) ?_
        refine gx_istore_n X d_Mo_spread_26 rfl (by decide) ?_
        refine gx_el (loop2 (2 ^ (3 * w)) 0 G (by omega) f1 (fun g hg => ?_) (fun g hg _ => f2 g (by omega))) ⟨rfl, rfl, rfl, rfl, trivial⟩
        obtain ⟨s, c1, -⟩ := hg
        exact absurd c1 (Nat.not_lt_zero s)
      · exact absurd ((nI_leI (by omega) (by omega)).mpr (by omega)) h9
    | succ d ih =>
      intro i G hd f1 f2
      refine gx_iload_n X d_Mo_spread_2 rfl rfl ?_
      refine gx_iconst X d_Mo_spread_3 (v := nI 1) (by decide) ?_
      refine gx_aload_n X d_Mo_spread_4 rfl rfl ?_
      refine gx_geti X d_Mo_spread_5 (gci in_Mo) (HX _ rfl).1 (HX _ rfl).2 rfl 12 (by decide) (gcw X lk_Mo_155) (fun _ h => h) rfl ?_
      refine gx_top (y := nI np) (by rw [f1 40 (by decide)]; exact hG.2.1) ?_
      refine gx_ishl X d_Mo_spread_8 ?_
      refine gx_top hsh ?_
      refine gx_icmp_ge X d_Mo_spread_9 (tgt := 25) (by decide) (fun h9 => ?_) (fun h9 => ?_)
      · exact absurd ((nI_leI (by omega) (by omega)).mp h9) (by omega)
      · refine gx_aload_n X d_Mo_spread_12 rfl rfl ?_
        refine gx_getr X d_Mo_spread_13 (gci in_Mo) (HX _ rfl).1 (HX _ rfl).2 rfl 25 (by decide) (gcw X lk_Mo_60) (fun _ h => h) rfl ?_
        refine gx_iload_n X d_Mo_spread_16 rfl rfl ?_
        refine gx_iconst X d_Mo_spread_17 (v := nI 0) (by decide) ?_
        refine gx_iast X d_Mo_spread_18 (HX _ rfl).1 (HX _ rfl).2 rfl (by omega) (by omega) ?_
        refine gx_iinc X d_Mo_spread_19 rfl (pu_inc _) ?_
        refine gx_goto X d_Mo_spread_22 (tgt := 2) (by decide) ?_
        refine gx_el (ih (i + 1) _ (by omega) (fun a ha => by rw [gxu_cell ha]; exact f1 a ha) (fun g hg => ?_)) ⟨rfl, rfl, rfl, rfl, trivial⟩
        by_cases e1 : g = i
        · rw [e1, gxu_at]
        · rw [gxu_ne (fun q => e1 q.2)]
          exact f2 g (by omega)
  refine gx_iconst X d_Mo_spread_0 (v := nI 0) (by decide) ?_
  refine gx_istore_n X d_Mo_spread_1 rfl (by decide) ?_
  exact gx_el (loop1 (2 ^ np) 0 F (by omega) (fun _ _ => rfl) (fun g hg => absurd hg (Nat.not_lt_zero g))) ⟨rfl, rfl, rfl, rfl, trivial⟩
end
