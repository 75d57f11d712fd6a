section
variable {l : Launch} {D : va_G} {ca : Nat → ClassId} {ks : List Nat} {lay : Nat → gxE} {ad : Nat → Nat} {F : Nat → Nat → Int32} {L : Nat → Nat → Int64} {w np : Nat} {sg : Nat → Nat} {ne : Nat} {ef et ek ev : Nat → Nat} {tg : Nat → Nat → Option Nat} {es : List Nat}
/-- the edges can be taken from the state; with which inputs (the least ones) -/
def opn (w : Nat) (ek ev : Nat → Nat) (tg : Nat → Nat → Option Nat) : List Nat → Nat → Bool
  | [], _ => true
  | e :: r, s => ((List.range (chs w ek e)).find? (fsO w ek ev tg (opn w ek ev tg r) e s)).isSome
def inp (w : Nat) (ek ev : Nat → Nat) (tg : Nat → Nat → Option Nat) : List Nat → Nat → List Nat
  | [], _ => []
  | e :: r, s => match (List.range (chs w ek e)).find? (fsO w ek ev tg (opn w ek ev tg r) e s) with
    | none => []
    | some x => (if ek e = 2 then [x] else []) ++ inp w ek ev tg r ((stp w ek ev tg e s x).getD 0)
theorem find_congr {α : Type} {P Q : α → Bool} : ∀ {l : List α}, (∀ x ∈ l, P x = Q x) → l.find? P = l.find? Q
  | [], _ => rfl
  | a :: r, h => by
    rw [List.find?_cons, List.find?_cons, h a (by simp), find_congr (fun x hx => h x (by simp [hx]))]
theorem fsO_congr (hw : w < 4) (hP : PrOK F w ne ef et ek ev tg) {O O2 : Nat → Bool} (h : ∀ q, q < 2 ^ (3 * w) → O q = O2 q) {e0 q : Nat} (he : e0 < ne) (hq : q < 2 ^ (3 * w)) : (List.range (chs w ek e0)).find? (fsO w ek ev tg O e0 q) = (List.range (chs w ek e0)).find? (fsO w ek ev tg O2 e0 q) := by
  apply find_congr
  intro x _
  unfold fsO
  cases hst : stp w ek ev tg e0 q x with
  | none => rfl
  | some t => exact h t (stp_lt hw hP he hq hst)
theorem drop_at {es : List Nat} {k : Nat} (h : k < es.length) : es.drop k = es.getD k 0 :: es.drop (k + 1) := by
  rw [List.drop_eq_getElem_cons h, List.getD_eq_getElem?_getD, List.getElem?_eq_getElem h]
  rfl
/-- the way stands in the cells -/
def EsOK (F : Nat → Nat → Int32) (ne : Nat) (es : List Nat) : Prop := es.length ≤ 199 ∧ F 20 13 = nI es.length ∧ ∀ i, i < es.length → F 29 i = nI (es.getD i 0) ∧ es.getD i 0 < ne
theorem EsOK.of {G : Nat → Nat → Int32} (h : EsOK F ne es) (e20 : G 20 = F 20) (e29 : G 29 = F 29) : EsOK G ne es := by
  unfold EsOK
  rw [e20, e29]
  exact h
def RwOK (L : Nat → Nat → Int64) (w : Nat) (ek ev : Nat → Nat) (tg : Nat → Nat → Option Nat) (es : List Nat) (c : Nat) : Prop := ∀ k, c ≤ k → k ≤ es.length → ∀ q, q < 2 ^ (3 * w) → opB L k q = opn w ek ev tg (es.drop k) q
set_option maxHeartbeats 4000000 in
theorem c_Re_collectInputs (HX : gH ks lay (2 ^ (3 * w)) sX) (hS : SpOK F w) (hP : PrOK F w ne ef et ek ev tg) (hE : EsOK F ne es) (hR : RwOK L w ek ev tg es 0) (h0 : F 30 5 = nI 0) (hop : opn w ek ev tg es 0 = true) : Con l y_Re_collectInputs (Cond.code y_Re_collectInputs b_Re_collectInputs 5 none :: WT) rm_Re_collectInputs D vcl ca ks lay ad [xR 30] F L (fun r F' L' => r = none ∧ L' = L ∧ (∀ a, a ≠ 30 → a ≠ 32 → F' a = F a) ∧ F' 30 5 = nI (inp w ek ev tg es 0).length ∧ ∀ i, i < (inp w ek ev tg es 0).length → F' 32 i = nI ((inp w ek ev tg es 0).getD i 0)) := by
  have hw : w < 4 := by have := hS.1; omega
  have hN := pu_N w hw
  have h20 := hP.1
  obtain ⟨e1, e2, e3⟩ := hE
  generalize hall : inp w ek ev tg es 0 = all
  refine Con.ofK (fun post K => ?_)
  refine Con.of (ls := [(0, xR 30)]) (by decide) rfl rfl (Nat.le_of_ble_eq_true rfl) ?_
  intro p e s m args below meth c A X hr hA
  refine gx_iconst X d_Re_collectInputs_0 (v := nI 0) (by decide) ?_
  refine gx_istore_n X d_Re_collectInputs_1 rfl (by decide) ?_
  refine gx_iconst X d_Re_collectInputs_2 (v := nI 0) (by decide) ?_
  refine gx_istore_n X d_Re_collectInputs_3 rfl (by decide) ?_
  have loop : ∀ (d k q : Nat) (got : List Nat) (G : Nat → Nat → Int32), k + d = es.length → q < 2 ^ (3 * w) → opn w ek ev tg (es.drop k) q = true → got.length ≤ k → got ++ inp w ek ev tg (es.drop k) q = all → (∀ a, a ≠ 30 → a ≠ 32 → G a = F a) → G 30 5 = nI got.length → (∀ i, i < got.length → G 32 i = nI (got.getD i 0)) → GX p l e rm_Re_collectInputs s m args below meth c (MQ below (gxQ D vcl ca ks lay ad s.heap.size post) args s 0 0 (gxA ks ad s.heap.size)) 5 A D vcl ca ks lay ad 0 0 4 [(2, xI (nI k)), (1, xI (nI q)), (0, xR 30)] [] G L := by
    intro d
    induction d with
    | zero =>
      intro k q got G hd hq ho hg hal hfr h5 h32
      rw [List.drop_eq_nil_of_le (by omega)] at hal
      have hal : got = all := by simpa [inp] using hal
      subst hal
      refine gx_iload_n X d_Re_collectInputs_4 rfl rfl ?_
      refine gx_aload_n X d_Re_collectInputs_5 rfl rfl ?_
      refine gx_getr X d_Re_collectInputs_6 (gci in_Re) (HX _ rfl).1 (HX _ rfl).2 rfl 2 (by decide) (gcw X lk_Re_27) (fun _ h => h) rfl ?_
      refine gx_geti X d_Re_collectInputs_9 (gci in_Se) (HX _ rfl).1 (HX _ rfl).2 rfl 13 (by decide) (gcw X lk_Re_41) (fun _ h => h) rfl ?_
      refine gx_top (y := nI es.length) (by rw [hfr 20 (by decide) (by decide)]; exact e2) ?_
      refine gx_icmp_ge X d_Re_collectInputs_12 (tgt := 89) (by decide) (fun h12 => ?_) (fun h12 => ?_)
      · refine gx_vret X hr hA d_Re_collectInputs_89 (K _ _ _ ⟨rfl, rfl, hfr, h5, h32⟩)
      · exact absurd ((nI_leI (by omega) (by omega)).mpr (by omega)) h12
    | succ d ih =>
      intro k q got G hd hq ho hg hal hfr h5 h32
      have hk : k < es.length := by omega
      obtain ⟨a1, a2⟩ := e3 k hk
      have hP2 : PrOK G w ne ef et ek ev tg := hP.of (fun a ha => hfr a (by omega) (by omega))
      obtain ⟨-, -, ⟨b1, b2⟩, -, -⟩ := hP2.2.2 (es.getD k 0) a2
      rw [drop_at hk] at ho hal
      rw [opn] at ho
      rw [inp] at hal
      generalize hee : es.getD k 0 = ee at *
      cases hfd : (List.range (chs w ek ee)).find? (fsO w ek ev tg (opn w ek ev tg (es.drop (k + 1))) ee q) with
      | none => rw [hfd] at ho; cases ho
      | some x =>
        rw [hfd] at hal
        have hfs := List.find?_some hfd
        have hx := List.mem_range.mp (List.mem_of_find?_eq_some hfd)
        have hch := chs_le hw ek ee
        have hst0 : ∃ t, stp w ek ev tg ee q x = some t ∧ opn w ek ev tg (es.drop (k + 1)) t = true := by
          unfold fsO at hfs
          split at hfs
          · rename_i t ht
            exact ⟨t, ht, hfs⟩
          · cases hfs
        obtain ⟨t, hst, hot⟩ := hst0
        have ht := stp_lt hw hP2 a2 hq hst
        have hfd2 : (List.range (chs w ek ee)).find? (fsO w ek ev tg (opB L (k + 1)) ee q) = some x := by
          rw [fsO_congr hw hP2 (fun z hz => hR (k + 1) (by omega) (by omega) z hz) a2 hq]
          exact hfd
        simp only [hst, Option.getD_some] at hal
        refine gx_iload_n X d_Re_collectInputs_4 rfl rfl ?_
        refine gx_aload_n X d_Re_collectInputs_5 rfl rfl ?_
        refine gx_getr X d_Re_collectInputs_6 (gci in_Re) (HX _ rfl).1 (HX _ rfl).2 rfl 2 (by decide) (gcw X lk_Re_27) (fun _ h => h) rfl ?_
        refine gx_geti X d_Re_collectInputs_9 (gci in_Se) (HX _ rfl).1 (HX _ rfl).2 rfl 13 (by decide) (gcw X lk_Re_41) (fun _ h => h) rfl ?_
        refine gx_top (y := nI es.length) (by rw [hfr 20 (by decide) (by decide)]; exact e2) ?_
        refine gx_icmp_ge X d_Re_collectInputs_12 (tgt := 89) (by decide) (fun h12 => ?_) (fun h12 => ?_)
        · exact absurd ((nI_leI (by omega) (by omega)).mp h12) (by omega)
        · refine gx_iload_n X d_Re_collectInputs_15 rfl rfl ?_
          refine gx_if_lt X d_Re_collectInputs_16 (tgt := 89) (by decide) (fun h16 => ?_) (fun h16 => ?_)
          · exact absurd h16 (nI_pos (by omega))
          · refine gx_aload_n X d_Re_collectInputs_19 rfl rfl ?_
            refine gx_getr X d_Re_collectInputs_20 (gci in_Re) (HX _ rfl).1 (HX _ rfl).2 rfl 2 (by decide) (gcw X lk_Re_27) (fun _ h => h) rfl ?_
            refine gx_getr X d_Re_collectInputs_23 (gci in_Se) (HX _ rfl).1 (HX _ rfl).2 rfl 14 (by decide) (gcw X lk_Re_69) (fun _ h => h) rfl ?_
            refine gx_iload_n X d_Re_collectInputs_26 rfl rfl ?_
            refine gx_iald X d_Re_collectInputs_27 (HX _ rfl).1 (HX _ rfl).2 rfl (by omega) (by omega) ?_
            refine gx_top (y := nI ee) (by rw [hfr 29 (by decide) (by decide)]; exact a1) ?_
            refine gx_istore_n X d_Re_collectInputs_28 rfl (by decide) ?_
            refine gx_aload_n X d_Re_collectInputs_29 rfl rfl ?_
            refine gx_iload_n X d_Re_collectInputs_30 rfl rfl ?_
            refine gx_iload_n X d_Re_collectInputs_31 rfl rfl ?_
            refine gx_callV X d_Re_collectInputs_32 mf_Re_leastInput lk_Re_65 (c_Re_leastInput HX (hS.of (hfr 1 (by decide) (by decide))) hP2 (k := k) (q := q) (e0 := ee) (by omega) hq (by rw [hfr 29 (by decide) (by decide)]; exact a1) a2) (HX _ rfl).1 (HX _ rfl).2 rfl rfl rfl (Nat.le_of_ble_eq_true rfl) ⟨by decide, by decide⟩ ⟨rfl, rfl⟩ ⟨Nat.zero_le _, Nat.zero_le _⟩ (fun r32 F32 L32 hp32 => ?_)
            obtain ⟨rfl, rfl, rfl⟩ := hp32
            rw [hfd2]
            have body : ∀ (got2 : List Nat) (G : Nat → Nat → Int32), got2.length ≤ k + 1 → got2 ++ inp w ek ev tg (es.drop (k + 1)) t = all → (∀ a, a ≠ 30 → a ≠ 32 → G a = F a) → G 30 5 = nI got2.length → (∀ i, i < got2.length → G 32 i = nI (got2.getD i 0)) → GX p l e rm_Re_collectInputs s m args below meth c (MQ below (gxQ D vcl ca ks lay ad s.heap.size post) args s 0 0 (gxA ks ad s.heap.size)) 5 A D vcl ca ks lay ad 0 0 71 [(4, xI (nI x)), (3, xI (nI ee)), (2, xI (nI k)), (1, xI (nI q)), (0, xR 30)] [] G L32 := by
              intro got2 G hg2 hal2 hfr2 h52 h322
              refine gx_aload_n X d_Re_collectInputs_71 rfl rfl ?_
              refine gx_getr X d_Re_collectInputs_72 (gci in_Re) (HX _ rfl).1 (HX _ rfl).2 rfl 1 (by decide) (gcw X lk_Re_23) (fun _ h => h) rfl ?_
              refine gx_iload_n X d_Re_collectInputs_75 rfl rfl ?_
              refine gx_iload_n X d_Re_collectInputs_76 rfl rfl ?_
              refine gx_iload X d_Re_collectInputs_77 rfl ?_
              refine gx_callV X d_Re_collectInputs_79 mf_Pr_step lk_Re_78 (c_Pr_step HX (hS.of (hfr2 1 (by decide) (by decide))) (hP.of (fun a ha => hfr2 a (by omega) (by omega))) a2 hq (nI x)) (HX _ rfl).1 (HX _ rfl).2 rfl rfl rfl (Nat.le_of_ble_eq_true rfl) ⟨by decide, by decide⟩ ⟨rfl, rfl⟩ ⟨Nat.zero_le _, Nat.zero_le _⟩ (fun r79 F79 L79 hp79 => ?_)
              obtain ⟨rfl, rfl, rfl⟩ := hp79
              rw [pk_tn (by omega), hst]
              refine gx_istore_n X d_Re_collectInputs_82 rfl (by decide) ?_
              refine gx_iinc X d_Re_collectInputs_83 rfl (pu_inc _) ?_
              refine gx_goto X d_Re_collectInputs_86 (tgt := 4) (by decide) ?_
              exact gx_el (ih (k + 1) t got2 F79 (by omega) ht hot hg2 hal2 hfr2 h52 h322) ⟨rfl, rfl, rfl, trivial⟩
            refine gx_istore X d_Re_collectInputs_35 (by decide) ?_
            refine gx_aload_n X d_Re_collectInputs_37 rfl rfl ?_
            refine gx_getr X d_Re_collectInputs_38 (gci in_Re) (HX _ rfl).1 (HX _ rfl).2 rfl 1 (by decide) (gcw X lk_Re_23) (fun _ h => h) rfl ?_
            refine gx_getr X d_Re_collectInputs_41 (gci in_Pr) (HX _ rfl).1 (HX _ rfl).2 rfl 3 (by decide) (gcw X lk_Re_82) (fun _ h => h) rfl ?_
            refine gx_iload_n X d_Re_collectInputs_44 rfl rfl ?_
            refine gx_iald X d_Re_collectInputs_45 (HX _ rfl).1 (HX _ rfl).2 rfl (by omega) (by omega) ?_
            refine gx_top b1 ?_
            refine gx_iconst X d_Re_collectInputs_46 (v := nI 2) (by decide) ?_
            refine gx_icmp_ne X d_Re_collectInputs_47 (tgt := 71) (by decide) (fun h47 => ?_) (fun h47 => ?_)
            · have hne : ¬ ek ee = 2 := fun z => h47 (by rw [z])
              rw [if_neg hne, List.nil_append] at hal
              exact gx_el (body got F32 (by omega) hal hfr h5 h32) ⟨rfl, rfl, rfl, rfl, rfl, trivial⟩
            · have heq : ek ee = 2 := (nI_eq (by omega) (by decide)).mp h47
              rw [if_pos heq, ← List.append_assoc] at hal
              refine gx_aload_n X d_Re_collectInputs_50 rfl rfl ?_
              refine gx_getr X d_Re_collectInputs_51 (gci in_Re) (HX _ rfl).1 (HX _ rfl).2 rfl 4 (by decide) (gcw X lk_Re_9) (fun _ h => h) rfl ?_
              refine gx_aload_n X d_Re_collectInputs_54 rfl rfl ?_
              refine gx_geti X d_Re_collectInputs_55 (gci in_Re) (HX _ rfl).1 (HX _ rfl).2 rfl 5 (by decide) (gcw X lk_Re_15) (fun _ h => h) rfl ?_
              refine gx_top h5 ?_
              refine gx_iload X d_Re_collectInputs_58 (x := nI x) rfl ?_
              refine gx_iast X d_Re_collectInputs_60 (HX _ rfl).1 (HX _ rfl).2 rfl (by omega) (by omega) ?_
              refine gx_aload_n X d_Re_collectInputs_61 rfl rfl ?_
              refine gx_dup X d_Re_collectInputs_62 rfl ?_
              refine gx_geti X d_Re_collectInputs_63 (gci in_Re) (HX _ rfl).1 (HX _ rfl).2 rfl 5 (by decide) (gcw X lk_Re_15) (fun _ h => h) rfl ?_
              refine gx_top (y := nI got.length) (by rw [gxu_cell (by decide)]; exact h5) ?_
              refine gx_iconst X d_Re_collectInputs_66 (v := nI 1) (by decide) ?_
              refine gx_iadd X d_Re_collectInputs_67 ?_
              refine gx_top (nI_add _ 1) ?_
              refine gx_puti X d_Re_collectInputs_68 (gci in_Re) (HX _ rfl).1 (HX _ rfl).2 rfl 5 (by decide) (gcw X lk_Re_15) (fun _ h => h) t_Re ty_Re nm_Re rfl (ty_Re 5 (by decide)) rfl rfl rfl ?_
              refine gx_el (body (got ++ [x]) _ (by simp; omega) hal (fun a q1 q2 => by rw [gxu_cell q1, gxu_cell q2]; exact hfr a q1 q2) (by rw [gxu_at]; simp) (fun i hi => ?_)) ⟨rfl, rfl, rfl, rfl, rfl, trivial⟩
              simp only [List.length_append, List.length_singleton] at hi
              rw [gxu_cell (by decide)]
              by_cases e4 : i = got.length
              · rw [e4, gxu_at, List.getD_eq_getElem?_getD, List.getElem?_append_right (Nat.le_refl _)]
                simp
              · rw [gxu_ne (fun z => e4 z.2), h32 i (by omega), List.getD_eq_getElem?_getD, List.getD_eq_getElem?_getD, List.getElem?_append_left (by omega)]
  exact gx_el (loop es.length 0 0 [] F (by omega) (Nat.two_pow_pos _) hop (by simp) (by rw [← hall]; rfl) (fun _ _ _ => rfl) h0 (fun i hi => absurd hi (by simp))) ⟨rfl, rfl, rfl, trivial⟩
set_option maxHeartbeats 4000000 in
theorem c_Re_succeeds (HX : gH ks lay (2 ^ (3 * w)) sX) (hS : SpOK F w) (hP : PrOK F w ne ef et ek ev tg) (hE : EsOK F ne es) (h0 : F 30 5 = nI 0) : Con l y_Re_succeeds (Cond.code y_Re_succeeds b_Re_succeeds 2 (some .boolean) :: WT) rm_Re_succeeds D vcl ca ks lay ad [xR 30] F L (fun r F' L' => r = some (xI (cond (opn w ek ev tg es 0) 1 0)) ∧ (∀ a, ¬ (200 ≤ a ∧ a < 400) → L' a = L a) ∧ (∀ a, a ≠ 30 → a ≠ 32 → F' a = F a) ∧ (opn w ek ev tg es 0 = false → F' 30 5 = nI 0) ∧ (opn w ek ev tg es 0 = true → F' 30 5 = nI (inp w ek ev tg es 0).length ∧ ∀ i, i < (inp w ek ev tg es 0).length → F' 32 i = nI ((inp w ek ev tg es 0).getD i 0))) := by
  have hw : w < 4 := by have := hS.1; omega
  have hN := pu_N w hw
  obtain ⟨e1, e2, e3⟩ := id hE
  refine Con.ofK (fun post K => ?_)
  refine Con.of (ls := [(0, xR 30)]) (by decide) rfl rfl (Nat.le_of_ble_eq_true rfl) ?_
  intro p e s m args below meth c A X hr hA
  refine gx_aload_n X d_Re_succeeds_0 rfl rfl ?_
  refine gx_getr X d_Re_succeeds_1 (gci in_Re) (HX _ rfl).1 (HX _ rfl).2 rfl 3 (by decide) (gcw X lk_Re_38) (fun _ h => h) rfl ?_
  refine gx_aload_n X d_Re_succeeds_4 rfl rfl ?_
  refine gx_getr X d_Re_succeeds_5 (gci in_Re) (HX _ rfl).1 (HX _ rfl).2 rfl 2 (by decide) (gcw X lk_Re_27) (fun _ h => h) rfl ?_
  refine gx_geti X d_Re_succeeds_8 (gci in_Se) (HX _ rfl).1 (HX _ rfl).2 rfl 13 (by decide) (gcw X lk_Re_41) (fun _ h => h) rfl ?_
  refine gx_top e2 ?_
  refine gx_aald X d_Re_succeeds_11 (HX _ rfl).1 (HX _ rfl).2 rfl rfl rfl (by omega) (by omega) ?_
  refine gx_ldc2 X d_Re_succeeds_12 (gcw X wk_Re_46) ?_
  refine gx_callS X d_Re_succeeds_15 mf_Ar_fill_aJJ lk_Re_48 (c_fill_J (hxO HX (e := es.length) (by omega)).1 (n := (2 ^ (3 * w) + 63) / 64) (hxO HX (e := es.length) (by omega)).2 (by omega) (-1)) rfl rfl (Nat.le_of_ble_eq_true rfl) ⟨by decide, by decide⟩ ⟨rfl, rfl⟩ ⟨Nat.zero_le _, Nat.zero_le _⟩ (fun r15 F15 L15 hp15 => ?_)
  obtain ⟨rfl, rfl, rfl⟩ := hp15
  refine gx_aload_n X d_Re_succeeds_18 rfl rfl ?_
  refine gx_getr X d_Re_succeeds_19 (gci in_Re) (HX _ rfl).1 (HX _ rfl).2 rfl 2 (by decide) (gcw X lk_Re_27) (fun _ h => h) rfl ?_
  refine gx_geti X d_Re_succeeds_22 (gci in_Se) (HX _ rfl).1 (HX _ rfl).2 rfl 13 (by decide) (gcw X lk_Re_41) (fun _ h => h) rfl ?_
  refine gx_top e2 ?_
  refine gx_iconst X d_Re_succeeds_25 (v := nI 1) (by decide) ?_
  refine gx_isub X d_Re_succeeds_26 ?_
  refine gx_istore_n X d_Re_succeeds_27 rfl (by decide) ?_
  have loop : ∀ (c0 : Nat) (M : Nat → Nat → Int64), c0 ≤ es.length → (∀ a, ¬ (200 ≤ a ∧ a < 400) → M a = L a) → RwOK M w ek ev tg es c0 → GX p l e rm_Re_succeeds s m args below meth c (MQ below (gxQ D vcl ca ks lay ad s.heap.size post) args s 0 0 (gxA ks ad s.heap.size)) 2 A D vcl ca ks lay ad 0 0 28 [(1, xI (nI c0 - nI 1)), (0, xR 30)] [] F15 M := by
    intro c0
    induction c0 with
    | zero =>
      intro M hc hM hR
      have hb := hR 0 (Nat.le_refl _) (by omega) 0 (Nat.two_pow_pos _)
      rw [List.drop_zero] at hb
      refine gx_iload_n X d_Re_succeeds_28 rfl rfl ?_
      refine gx_if_lt X d_Re_succeeds_29 (tgt := 43) (by decide) (fun h29 => ?_) (fun h29 => ?_)
      · refine gx_aload_n X d_Re_succeeds_43 rfl rfl ?_
        refine gx_iconst X d_Re_succeeds_44 (v := nI 0) (by decide) ?_
        refine gx_iconst X d_Re_succeeds_45 (v := nI 0) (by decide) ?_
        refine gx_callV X d_Re_succeeds_46 mf_Re_isOpen lk_Re_58 (c_Re_isOpen HX hw (k := 0) (q := 0) (by decide) (Nat.two_pow_pos _)) (HX _ rfl).1 (HX _ rfl).2 rfl rfl rfl (Nat.le_of_ble_eq_true rfl) ⟨by decide, by decide⟩ ⟨rfl, rfl⟩ ⟨Nat.zero_le _, Nat.zero_le _⟩ (fun r46 F46 L46 hp46 => ?_)
        obtain ⟨rfl, rfl, rfl⟩ := hp46
        rw [hb]
        refine gx_if_ne X d_Re_succeeds_49 (tgt := 54) (by decide) (fun h49 => ?_) (fun h49 => ?_)
        · have ht := cb_t h49
          refine gx_aload_n X d_Re_succeeds_54 rfl rfl ?_
          refine gx_callV X d_Re_succeeds_55 mf_Re_collectInputs lk_Re_62 (c_Re_collectInputs HX hS hP hE hR h0 ht) (HX _ rfl).1 (HX _ rfl).2 rfl rfl rfl (Nat.le_of_ble_eq_true rfl) ⟨by decide, by decide⟩ ⟨rfl, rfl⟩ ⟨Nat.zero_le _, Nat.zero_le _⟩ (fun r55 F55 L55 hp55 => ?_)
          obtain ⟨rfl, rfl, q1, q2, q3⟩ := hp55
          refine gx_iconst X d_Re_succeeds_58 (v := nI 1) (by decide) ?_
          refine gx_zret X hr (by first | rfl | decide) hA d_Re_succeeds_59 (K _ _ _ ⟨by rw [ht]; rfl, hM, q1, fun z => absurd (ht.symm.trans z) (by decide), fun _ => ⟨q2, q3⟩⟩)
        · have hf := cb_f h49
          refine gx_iconst X d_Re_succeeds_52 (v := nI 0) (by decide) ?_
          refine gx_zret X hr (by first | rfl | decide) hA d_Re_succeeds_53 (K _ _ _ ⟨by rw [hf]; rfl, hM, fun _ _ _ => rfl, fun _ => h0, fun z => absurd (hf.symm.trans z) (by decide)⟩)
      · exact absurd (show nI 0 - nI 1 < 0 by decide) h29
    | succ c0 ih =>
      intro M hc hM hR
      have hsub : nI (c0 + 1) - nI 1 = nI c0 := by rw [pk_sub (by omega)]; rfl
      obtain ⟨a1, a2⟩ := e3 c0 (by omega)
      rw [hsub]
      refine gx_iload_n X d_Re_succeeds_28 rfl rfl ?_
      refine gx_if_lt X d_Re_succeeds_29 (tgt := 43) (by decide) (fun h29 => ?_) (fun h29 => ?_)
      · exact absurd h29 (nI_pos (by omega))
      · refine gx_aload_n X d_Re_succeeds_32 rfl rfl ?_
        refine gx_iload_n X d_Re_succeeds_33 rfl rfl ?_
        refine gx_callV X d_Re_succeeds_34 mf_Re_openBefore lk_Re_54 (c_Re_openBefore HX hS hP (k := c0) (e0 := es.getD c0 0) (by omega) a1 a2) (HX _ rfl).1 (HX _ rfl).2 rfl rfl rfl (Nat.le_of_ble_eq_true rfl) ⟨by decide, by decide⟩ ⟨rfl, rfl⟩ ⟨Nat.zero_le _, Nat.zero_le _⟩ (fun r34 F34 L34 hp34 => ?_)
        obtain ⟨rfl, rfl, q1, q2⟩ := hp34
        refine gx_iinc X d_Re_succeeds_37 rfl (v := nI c0 - nI 1) (sub_m1 _) ?_
        refine gx_goto X d_Re_succeeds_40 (tgt := 28) (by decide) ?_
        refine gx_el (ih L34 (by omega) (fun a ha => by rw [q1 a (by unfold rO; omega)]; exact hM a ha) (fun k hk1 hk2 q hq => ?_)) ⟨rfl, rfl, trivial⟩
        by_cases e4 : k = c0
        · rw [e4, q2 q hq, drop_at (by omega), opn, fsO_congr hw hP (fun z hz => hR (c0 + 1) (Nat.le_refl _) (by omega) z hz) a2 hq]
        · have : opB L34 k q = opB M k q := by
            unfold opB
            rw [q1 (rO k) (by unfold rO; omega)]
          rw [this]
          exact hR k (by omega) hk2 q hq
  refine gx_el (loop es.length _ (Nat.le_refl _) (fun a ha => flL_cell (by unfold rO; omega)) (fun k hk1 hk2 q hq => ?_)) ⟨rfl, rfl, trivial⟩
  rw [show k = es.length by omega, List.drop_length, opn]
  unfold opB
  rw [flL_in (by omega) (by omega)]
  exact tb_m1 _ (Nat.mod_lt _ (by decide))
end
