/-! the reference's replay (own text) -/
theorem find_inv {n x : Nat} {P : Nat → Bool} (h : (List.range n).find? P = some x) : x < n ∧ P x = true ∧ ∀ y, y < x → P y = false := by
  have hx : x < n := List.mem_range.mp (List.mem_of_find?_eq_some h)
  refine ⟨hx, List.find?_some h, ?_⟩
  intro y
  induction y using Nat.strongRecOn with
  | ind y ih =>
    intro hy
    cases hp : P y with
    | false => rfl
    | true =>
      have h2 := find_some (n := n) (x := y) (P := P) (by omega) hp (fun z hz => ih z hz (by omega))
      rw [h] at h2
      cases h2
      exact absurd hy (Nat.lt_irrefl _)
section
variable {l : Launch} {D : va_G} {ca : Nat → ClassId} {ks : List Nat} {lay : Nat → gxE} {ad : Nat → Nat} {F : Nat → Nat → Int32} {L : Nat → Nat → Int64} {N w ne np : Nat} {ef et ek ev : Nat → Nat} {tg : Nat → Nat → Option Nat} {sg : Nat → Nat} {S : Nat → Bool} {es : List Nat}
/-- the way stands in the reference's cells -/
def EmOK (F : Nat → Nat → Int32) (ne : Nat) (es : List Nat) : Prop := es.length ≤ 199 ∧ F 40 21 = nI es.length ∧ ∀ i, i < es.length → F 53 i = nI (es.getD i 0) ∧ es.getD i 0 < ne
theorem EmOK.of {G : Nat → Nat → Int32} (h : EmOK F ne es) (e21 : G 40 21 = F 40 21) (e53 : G 53 = F 53) : EmOK G ne es := by
  unfold EmOK
  rw [e21, e53]
  exact h
set_option maxHeartbeats 8000000 in
theorem c_Mo_isTrue (HX : gH ks lay N sM) (hS : MsOK F w) (hE : MeOK F L w ne ef et ek ev tg) (hP : EmOK F ne es) : Con l y_Mo_isTrue (Cond.code y_Mo_isTrue b_Mo_isTrue 5 (some .boolean) :: WT) rm_Mo_isTrue D vcl ca ks lay ad [xR 40] F L (fun r F' L' => r = some (xI (cond (opn w ek ev tg es 0) 1 0)) ∧ (∀ a, a ≠ 56 → L' a = L a) ∧ (∀ a, a ≠ 40 → a ≠ 54 → a ≠ 55 → a ≠ 57 → F' a = F a) ∧ (∀ j, j ≠ 23 → F' 40 j = F 40 j) ∧ (opn w ek ev tg es 0 = false → F' 40 23 = F 40 23) ∧ (opn w ek ev tg es 0 = true → F' 40 23 = nI (inp w ek ev tg es 0).length ∧ ∀ i, i < (inp w ek ev tg es 0).length → F' 54 i = nI ((inp w ek ev tg es 0).getD i 0))) := by
  have hw : w < 4 := by have := hS.1; omega
  have hN := pu_N w hw
  have hN0 : 0 < 2 ^ (3 * w) := Nat.two_pow_pos _
  have h20 := hE.1
  obtain ⟨p1, p2, p3⟩ := hP
  generalize hall : inp w ek ev tg es 0 = all
  refine Con.ofK (fun post K => ?_)
  refine Con.of (ls := [(0, xR 40)]) (by decide) rfl rfl (Nat.le_of_ble_eq_true rfl) ?_
  intro p e s m args below meth c A X hr hA
  -- the inputs, once the way is open
  have loop2 : opn w ek ev tg es 0 = true → ∀ (M : Nat → Nat → Int64), (∀ a, a ≠ 56 → M a = L a) → (∀ k, k ≤ es.length → ∀ q, q < 2 ^ (3 * w) → bB M 56 (8 * k) q = opn w ek ev tg (es.drop k) q) → ∀ (d k q : Nat) (got : List Nat) (G : Nat → Nat → Int32), k + d = es.length → q < 2 ^ (3 * w) → opn w ek ev tg (es.drop k) q = true → got.length ≤ k → got ++ inp w ek ev tg (es.drop k) q = all → (∀ a, a ≠ 40 → a ≠ 54 → a ≠ 55 → a ≠ 57 → G a = F a) → (∀ j, j ≠ 23 → G 40 j = F 40 j) → G 40 23 = nI got.length → (∀ i, i < got.length → G 54 i = nI (got.getD i 0)) → GX p l e rm_Mo_isTrue s m args below meth c (MQ below (gxQ D vcl ca ks lay ad s.heap.size post) args s 0 0 (gxA ks ad s.heap.size)) 5 A D vcl ca ks lay ad 0 0 83 [(2, xI (nI k)), (1, xI (nI q)), (0, xR 40)] [] G M := by
    intro htrue M hM hsets d
    induction d with
    | zero =>
      intro k q got G hd hq ho hg hal f1 f2 f3 f4
      rw [List.drop_eq_nil_of_le (by omega)] at hal
      have hal : got = all := by simpa [inp] using hal
      subst hal
      refine gx_iload_n X d_Mo_isTrue_83 rfl rfl ?_
      refine gx_aload_n X d_Mo_isTrue_84 rfl rfl ?_
      refine gx_geti X d_Mo_isTrue_85 (gci in_Mo) (HX _ rfl).1 (HX _ rfl).2 rfl 21 (by decide) (gcw X lk_Mo_51) (fun _ h => h) rfl ?_
      refine gx_top (y := nI es.length) (by rw [f2 21 (by decide)]; exact p2) ?_
      refine gx_icmp_ge X d_Mo_isTrue_88 (tgt := 200) (by decide) (fun h88 => ?_) (fun h88 => ?_)
      · refine gx_iconst X d_Mo_isTrue_200 (v := nI 1) (by decide) ?_
        refine gx_zret X hr (by first | rfl | decide) hA d_Mo_isTrue_201 (K _ _ _ ⟨by rw [htrue]; rfl, hM, f1, f2, fun z => (by rw [htrue] at z; cases z), fun _ => ⟨f3, f4⟩⟩)
      · exact absurd ((nI_leI (by omega) (by omega)).mpr (by omega)) h88
    | succ d ih =>
      intro k q got G hd hq ho hg hal f1 f2 f3 f4
      have hk : k < es.length := by omega
      obtain ⟨a1, a2⟩ := p3 k hk
      rw [drop_at hk] at ho hal
      generalize es.getD k 0 = e0 at a1 a2 ho hal
      have hE2 : MeOK G M w ne ef et ek ev tg := hE.of (f2 6 (by decide)) (fun a ha => f1 a (by omega) (by omega) (by omega) (by omega)) (hM 46 (by decide))
      have hS2 : MsOK G w := hS.of (fun j hj => f2 j (by omega))
      obtain ⟨-, -, ⟨hkd, hk3⟩, ⟨hv, hv3⟩, hx⟩ := hE2.2.2 e0 a2
      obtain ⟨hx0, hx1, hx2, hx4⟩ := hx q hq
      rw [opn] at ho
      obtain ⟨x, hfx⟩ := Option.isSome_iff_exists.mp ho
      rw [inp, hfx] at hal
      have hal : got ++ ((if ek e0 = 2 then [x] else []) ++ inp w ek ev tg (es.drop (k + 1)) ((stp w ek ev tg e0 q x).getD 0)) = all := hal
      obtain ⟨v1, v2, v3⟩ := find_inv hfx
      refine gx_iload_n X d_Mo_isTrue_83 rfl rfl ?_
      refine gx_aload_n X d_Mo_isTrue_84 rfl rfl ?_
      refine gx_geti X d_Mo_isTrue_85 (gci in_Mo) (HX _ rfl).1 (HX _ rfl).2 rfl 21 (by decide) (gcw X lk_Mo_51) (fun _ h => h) rfl ?_
      refine gx_top (y := nI es.length) (by rw [f2 21 (by decide)]; exact p2) ?_
      refine gx_icmp_ge X d_Mo_isTrue_88 (tgt := 200) (by decide) (fun h88 => ?_) (fun h88 => ?_)
      · exact absurd ((nI_leI (by omega) (by omega)).mp h88) (by omega)
      · refine gx_aload_n X d_Mo_isTrue_91 rfl rfl ?_
        refine gx_getr X d_Mo_isTrue_92 (gci in_Mo) (HX _ rfl).1 (HX _ rfl).2 rfl 22 (by decide) (gcw X lk_Mo_54) (fun _ h => h) rfl ?_
        refine gx_iload_n X d_Mo_isTrue_95 rfl rfl ?_
        refine gx_iald X d_Mo_isTrue_96 (HX _ rfl).1 (HX _ rfl).2 rfl (by omega) (by omega) ?_
        refine gx_top (y := nI e0) (by rw [f1 53 (by decide) (by decide) (by decide) (by decide)]; exact a1) ?_
        refine gx_istore_n X d_Mo_isTrue_97 rfl (by decide) ?_
        refine gx_aload_n X d_Mo_isTrue_98 rfl rfl ?_
        refine gx_getr X d_Mo_isTrue_99 (gci in_Mo) (HX _ rfl).1 (HX _ rfl).2 rfl 9 (by decide) (gcw X lk_Mo_19) (fun _ h => h) rfl ?_
        refine gx_iload_n X d_Mo_isTrue_102 rfl rfl ?_
        refine gx_iald X d_Mo_isTrue_103 (HX _ rfl).1 (HX _ rfl).2 rfl (by omega) (by omega) ?_
        refine gx_top hkd ?_
        have hcase : ek e0 = 0 ∨ ek e0 = 1 ∨ ek e0 = 2 := by omega
        rcases hcase with hk0 | hk0 | hk0
        · have hst : stp w ek ev tg e0 q x = tg e0 q := by unfold stp; rw [if_neg (by omega)]
          have hkd2 : rk3 (ek e0) = 2 := by rw [hk0]; rfl
          have htq : tg e0 q = some q := by
            rcases (hx2 hk0).2 with o | o
            · unfold fsO at v2; rw [hst, o] at v2; cases v2
            · exact o
          rw [if_neg (by omega), hst, htq] at hal
          unfold fsO at v2
          rw [hst, htq] at v2
          rw [hkd2]
          refine gx_if_ne X d_Mo_isTrue_104 (tgt := 114) (by decide) (fun h104 => ?_) (fun h104 => ?_)
          · refine gx_aload_n X d_Mo_isTrue_114 rfl rfl ?_
            refine gx_getr X d_Mo_isTrue_115 (gci in_Mo) (HX _ rfl).1 (HX _ rfl).2 rfl 9 (by decide) (gcw X lk_Mo_19) (fun _ h => h) rfl ?_
            refine gx_iload_n X d_Mo_isTrue_118 rfl rfl ?_
            refine gx_iald X d_Mo_isTrue_119 (HX _ rfl).1 (HX _ rfl).2 rfl (by omega) (by omega) ?_
            refine gx_top (y := nI 2) (by rw [hkd, hkd2]) ?_
            refine gx_iconst X d_Mo_isTrue_120 (v := nI 1) (by decide) ?_
            refine gx_icmp_eq X d_Mo_isTrue_121 (tgt := 127) (by decide) (fun h121 => ?_) (fun h121 => ?_)
            · exact absurd h121 (by decide)
            · refine gx_goto X d_Mo_isTrue_124 (tgt := 194) (by decide) ?_
              refine gx_iinc X d_Mo_isTrue_194 rfl (pu_inc _) ?_
              refine gx_goto X d_Mo_isTrue_197 (tgt := 83) (by decide) ?_
              exact gx_el (ih (k + 1) q got G (by omega) hq v2 (by omega) (by simpa using hal) f1 f2 f3 f4) ⟨rfl, rfl, rfl, trivial⟩
          · exact absurd h104 (by decide)
        · have hst : stp w ek ev tg e0 q x = tg e0 q := by unfold stp; rw [if_neg (by omega)]
          have hkd2 : rk3 (ek e0) = 0 := by rw [hk0]; rfl
          obtain ⟨x9, -, htq, -⟩ := hx1 hk0
          have htl := hx0 _ htq
          rw [if_neg (by omega), hst, htq] at hal
          unfold fsO at v2
          rw [hst, htq] at v2
          rw [hkd2]
          refine gx_if_ne X d_Mo_isTrue_104 (tgt := 114) (by decide) (fun h104 => ?_) (fun h104 => ?_)
          · exact absurd rfl h104
          · refine gx_aload_n X d_Mo_isTrue_107 rfl rfl ?_
            refine gx_iload_n X d_Mo_isTrue_108 rfl rfl ?_
            refine gx_iload_n X d_Mo_isTrue_109 rfl rfl ?_
            refine gx_callV X d_Mo_isTrue_110 mf_Mo_led lk_Mo_161 (c_Mo_led HX hS2 hE2 a2 hk0 hq) (HX _ rfl).1 (HX _ rfl).2 rfl rfl rfl (Nat.le_of_ble_eq_true rfl) ⟨by decide, by decide⟩ ⟨rfl, rfl⟩ ⟨Nat.zero_le _, Nat.zero_le _⟩ (fun r110 F110 L110 hp110 => ?_)
            obtain ⟨rfl, rfl, rfl⟩ := hp110
            refine gx_top (y := nI (wr w q (ev e0) x9)) (by rw [htq]; rfl) ?_
            refine gx_istore_n X d_Mo_isTrue_113 rfl (by decide) ?_
            refine gx_aload_n X d_Mo_isTrue_114 rfl rfl ?_
            refine gx_getr X d_Mo_isTrue_115 (gci in_Mo) (HX _ rfl).1 (HX _ rfl).2 rfl 9 (by decide) (gcw X lk_Mo_19) (fun _ h => h) rfl ?_
            refine gx_iload_n X d_Mo_isTrue_118 rfl rfl ?_
            refine gx_iald X d_Mo_isTrue_119 (HX _ rfl).1 (HX _ rfl).2 rfl (by omega) (by omega) ?_
            refine gx_top (y := nI 0) (by rw [hkd, hkd2]) ?_
            refine gx_iconst X d_Mo_isTrue_120 (v := nI 1) (by decide) ?_
            refine gx_icmp_eq X d_Mo_isTrue_121 (tgt := 127) (by decide) (fun h121 => ?_) (fun h121 => ?_)
            · exact absurd h121 (by decide)
            · refine gx_goto X d_Mo_isTrue_124 (tgt := 194) (by decide) ?_
              refine gx_iinc X d_Mo_isTrue_194 rfl (pu_inc _) ?_
              refine gx_goto X d_Mo_isTrue_197 (tgt := 83) (by decide) ?_
              exact gx_el (ih (k + 1) (wr w q (ev e0) x9) got F110 (by omega) htl v2 (by omega) (by simpa using hal) f1 f2 f3 f4) ⟨rfl, rfl, rfl, trivial⟩
        · have hst : ∀ y, stp w ek ev tg e0 q y = some (wr w q (ev e0) y) := fun y => by unfold stp; rw [if_pos hk0]
          have hkd2 : rk3 (ek e0) = 1 := by rw [hk0]; rfl
          have hch : chs w ek e0 = 2 ^ w := by unfold chs; rw [if_pos hk0]
          have h8 := pu_p8 w hw
          have hfs : ∀ y, fsO w ek ev tg (opn w ek ev tg (es.drop (k + 1))) e0 q y = opn w ek ev tg (es.drop (k + 1)) (wr w q (ev e0) y) := fun y => by unfold fsO; rw [hst]
          rw [if_pos hk0, hst] at hal
          rw [hkd2]
          have inner : ∀ (d2 v : Nat), v + d2 = x → GX p l e rm_Mo_isTrue s m args below meth c (MQ below (gxQ D vcl ca ks lay ad s.heap.size post) args s 0 0 (gxA ks ad s.heap.size)) 5 A D vcl ca ks lay ad 0 0 130 [(4, xI (nI v)), (3, xI (nI e0)), (2, xI (nI k)), (1, xI (nI q)), (0, xR 40)] [] G M := by
            intro d2
            induction d2 with
            | zero =>
              intro v hv0
              have hvx : v = x := by omega
              subst hvx
              have hwl : wr w q (ev e0) v < 2 ^ (3 * w) := wr_lt' hw hv3 hq
              refine gx_aload_n X d_Mo_isTrue_130 rfl rfl ?_
              refine gx_iload_n X d_Mo_isTrue_131 rfl rfl ?_
              refine gx_iconst X d_Mo_isTrue_132 (v := nI 1) (by decide) ?_
              refine gx_iadd X d_Mo_isTrue_133 ?_
              refine gx_top (y := nI (k + 1)) (nI_add k 1) ?_
              refine gx_aload_n X d_Mo_isTrue_134 rfl rfl ?_
              refine gx_iload_n X d_Mo_isTrue_135 rfl rfl ?_
              refine gx_aload_n X d_Mo_isTrue_136 rfl rfl ?_
              refine gx_getr X d_Mo_isTrue_137 (gci in_Mo) (HX _ rfl).1 (HX _ rfl).2 rfl 10 (by decide) (gcw X lk_Mo_22) (fun _ h => h) rfl ?_
              refine gx_iload_n X d_Mo_isTrue_140 rfl rfl ?_
              refine gx_iald X d_Mo_isTrue_141 (HX _ rfl).1 (HX _ rfl).2 rfl (by omega) (by omega) ?_
              refine gx_top hv ?_
              refine gx_iload X d_Mo_isTrue_142 rfl ?_
              refine gx_callV X d_Mo_isTrue_144 mf_Mo_with lk_Mo_152 (c_Mo_with HX hS2 (st := q) (v := ev e0) (by omega) hv3 (nI v)) (HX _ rfl).1 (HX _ rfl).2 rfl rfl rfl (Nat.le_of_ble_eq_true rfl) ⟨by decide, by decide⟩ ⟨rfl, rfl⟩ ⟨Nat.zero_le _, Nat.zero_le _⟩ (fun r144 F144 L144 hp144 => ?_)
              obtain ⟨rfl, rfl, rfl⟩ := hp144
              refine gx_top (y := nI (wr w q (ev e0) v)) (by rw [nI_nat (by omega)]) ?_
              refine gx_callV X d_Mo_isTrue_147 mf_Mo_isIn lk_Mo_180 (c_Mo_isIn HX (e0 := k + 1) (q := wr w q (ev e0) v) (by omega) (by omega)) (HX _ rfl).1 (HX _ rfl).2 rfl rfl rfl (Nat.le_of_ble_eq_true rfl) ⟨by decide, by decide⟩ ⟨rfl, rfl⟩ ⟨Nat.zero_le _, Nat.zero_le _⟩ (fun r147 F147 L147 hp147 => ?_)
              obtain ⟨rfl, rfl, rfl⟩ := hp147
              refine gx_top (y := 1) (by rw [hsets (k + 1) (by omega) _ hwl, ← hfs, v2]; rfl) ?_
              refine gx_if_ne X d_Mo_isTrue_150 (tgt := 159) (by decide) (fun h150 => ?_) (fun h150 => ?_)
              · refine gx_aload_n X d_Mo_isTrue_159 rfl rfl ?_
                refine gx_iload_n X d_Mo_isTrue_160 rfl rfl ?_
                refine gx_aload_n X d_Mo_isTrue_161 rfl rfl ?_
                refine gx_getr X d_Mo_isTrue_162 (gci in_Mo) (HX _ rfl).1 (HX _ rfl).2 rfl 10 (by decide) (gcw X lk_Mo_22) (fun _ h => h) rfl ?_
                refine gx_iload_n X d_Mo_isTrue_165 rfl rfl ?_
                refine gx_iald X d_Mo_isTrue_166 (HX _ rfl).1 (HX _ rfl).2 rfl (by omega) (by omega) ?_
                refine gx_top hv ?_
                refine gx_iload X d_Mo_isTrue_167 rfl ?_
                refine gx_callV X d_Mo_isTrue_169 mf_Mo_with lk_Mo_152 (c_Mo_with HX hS2 (st := q) (v := ev e0) (by omega) hv3 (nI v)) (HX _ rfl).1 (HX _ rfl).2 rfl rfl rfl (Nat.le_of_ble_eq_true rfl) ⟨by decide, by decide⟩ ⟨rfl, rfl⟩ ⟨Nat.zero_le _, Nat.zero_le _⟩ (fun r169 F169 L169 hp169 => ?_)
                obtain ⟨rfl, rfl, rfl⟩ := hp169
                refine gx_top (y := nI (wr w q (ev e0) v)) (by rw [nI_nat (by omega)]) ?_
                refine gx_istore_n X d_Mo_isTrue_172 rfl (by decide) ?_
                refine gx_aload_n X d_Mo_isTrue_173 rfl rfl ?_
                refine gx_getr X d_Mo_isTrue_174 (gci in_Mo) (HX _ rfl).1 (HX _ rfl).2 rfl 24 (by decide) (gcw X lk_Mo_57) (fun _ h => h) rfl ?_
                refine gx_aload_n X d_Mo_isTrue_177 rfl rfl ?_
                refine gx_geti X d_Mo_isTrue_178 (gci in_Mo) (HX _ rfl).1 (HX _ rfl).2 rfl 23 (by decide) (gcw X lk_Mo_126) (fun _ h => h) rfl ?_
                refine gx_top f3 ?_
                refine gx_iload X d_Mo_isTrue_181 rfl ?_
                refine gx_iast X d_Mo_isTrue_183 (HX _ rfl).1 (HX _ rfl).2 rfl (by omega) (by omega) ?_
                refine gx_aload_n X d_Mo_isTrue_184 rfl rfl ?_
                refine gx_dup X d_Mo_isTrue_185 rfl ?_
                refine gx_geti X d_Mo_isTrue_186 (gci in_Mo) (HX _ rfl).1 (HX _ rfl).2 rfl 23 (by decide) (gcw X lk_Mo_126) (fun _ h => h) rfl ?_
                refine gx_top (y := nI got.length) (by rw [gxu_cell (by decide)]; exact f3) ?_
                refine gx_iconst X d_Mo_isTrue_189 (v := nI 1) (by decide) ?_
                refine gx_iadd X d_Mo_isTrue_190 ?_
                refine gx_top (nI_add got.length 1) ?_
                refine gx_puti X d_Mo_isTrue_191 (gci in_Mo) (HX _ rfl).1 (HX _ rfl).2 rfl 23 (by decide) (gcw X lk_Mo_126) (fun _ h => h) t_Mo ty_Mo nm_Mo rfl (ty_Mo 23 (by decide)) rfl rfl rfl ?_
                refine gx_iinc X d_Mo_isTrue_194 rfl (pu_inc _) ?_
                refine gx_goto X d_Mo_isTrue_197 (tgt := 83) (by decide) ?_
                refine gx_el (ih (k + 1) (wr w q (ev e0) v) (got ++ [v]) _ (by omega) hwl (by rw [← hfs]; exact v2) (by simp; omega) (by simpa using hal) (fun a b1 b2 b3 b4 => by rw [gxu_cell b1, gxu_cell b2]; exact f1 a b1 b2 b3 b4) (fun j b1 => by rw [gxu_ne (fun z => b1 z.2), gxu_cell (by decide)]; exact f2 j b1) (by rw [gxu_at]; simp) (fun i hi => ?_)) ⟨rfl, rfl, rfl, trivial⟩
                simp only [List.length_append, List.length_singleton] at hi
                rw [gxu_cell (by decide)]
                by_cases e1 : i = got.length
                · subst e1
                  rw [gxu_at, List.getD_eq_getElem?_getD, List.getElem?_append_right (Nat.le_refl _), Nat.sub_self]
                  rfl
                · rw [gxu_ne (fun z => e1 z.2), f4 i (by omega), List.getD_eq_getElem?_getD, List.getD_eq_getElem?_getD, List.getElem?_append_left (by omega)]
              · exact absurd h150 (by decide)
            | succ d2 ih2 =>
              intro v hv0
              have hwl : wr w q (ev e0) v < 2 ^ (3 * w) := wr_lt' hw hv3 hq
              refine gx_aload_n X d_Mo_isTrue_130 rfl rfl ?_
              refine gx_iload_n X d_Mo_isTrue_131 rfl rfl ?_
              refine gx_iconst X d_Mo_isTrue_132 (v := nI 1) (by decide) ?_
              refine gx_iadd X d_Mo_isTrue_133 ?_
              refine gx_top (y := nI (k + 1)) (nI_add k 1) ?_
              refine gx_aload_n X d_Mo_isTrue_134 rfl rfl ?_
              refine gx_iload_n X d_Mo_isTrue_135 rfl rfl ?_
              refine gx_aload_n X d_Mo_isTrue_136 rfl rfl ?_
              refine gx_getr X d_Mo_isTrue_137 (gci in_Mo) (HX _ rfl).1 (HX _ rfl).2 rfl 10 (by decide) (gcw X lk_Mo_22) (fun _ h => h) rfl ?_
              refine gx_iload_n X d_Mo_isTrue_140 rfl rfl ?_
              refine gx_iald X d_Mo_isTrue_141 (HX _ rfl).1 (HX _ rfl).2 rfl (by omega) (by omega) ?_
              refine gx_top hv ?_
              refine gx_iload X d_Mo_isTrue_142 rfl ?_
              refine gx_callV X d_Mo_isTrue_144 mf_Mo_with lk_Mo_152 (c_Mo_with HX hS2 (st := q) (v := ev e0) (by omega) hv3 (nI v)) (HX _ rfl).1 (HX _ rfl).2 rfl rfl rfl (Nat.le_of_ble_eq_true rfl) ⟨by decide, by decide⟩ ⟨rfl, rfl⟩ ⟨Nat.zero_le _, Nat.zero_le _⟩ (fun r144 F144 L144 hp144 => ?_)
              obtain ⟨rfl, rfl, rfl⟩ := hp144
              refine gx_top (y := nI (wr w q (ev e0) v)) (by rw [nI_nat (by omega)]) ?_
              refine gx_callV X d_Mo_isTrue_147 mf_Mo_isIn lk_Mo_180 (c_Mo_isIn HX (e0 := k + 1) (q := wr w q (ev e0) v) (by omega) (by omega)) (HX _ rfl).1 (HX _ rfl).2 rfl rfl rfl (Nat.le_of_ble_eq_true rfl) ⟨by decide, by decide⟩ ⟨rfl, rfl⟩ ⟨Nat.zero_le _, Nat.zero_le _⟩ (fun r147 F147 L147 hp147 => ?_)
              obtain ⟨rfl, rfl, rfl⟩ := hp147
              refine gx_top (y := 0) (by rw [hsets (k + 1) (by omega) _ hwl, ← hfs, v3 v (by omega)]; rfl) ?_
              refine gx_if_ne X d_Mo_isTrue_150 (tgt := 159) (by decide) (fun h150 => ?_) (fun h150 => ?_)
              · exact absurd rfl h150
              · refine gx_iinc X d_Mo_isTrue_153 rfl (pu_inc _) ?_
                refine gx_goto X d_Mo_isTrue_156 (tgt := 130) (by decide) ?_
                exact gx_el (ih2 (v + 1) (by omega)) ⟨rfl, rfl, rfl, rfl, rfl, trivial⟩
          refine gx_if_ne X d_Mo_isTrue_104 (tgt := 114) (by decide) (fun h104 => ?_) (fun h104 => ?_)
          · refine gx_aload_n X d_Mo_isTrue_114 rfl rfl ?_
            refine gx_getr X d_Mo_isTrue_115 (gci in_Mo) (HX _ rfl).1 (HX _ rfl).2 rfl 9 (by decide) (gcw X lk_Mo_19) (fun _ h => h) rfl ?_
            refine gx_iload_n X d_Mo_isTrue_118 rfl rfl ?_
            refine gx_iald X d_Mo_isTrue_119 (HX _ rfl).1 (HX _ rfl).2 rfl (by omega) (by omega) ?_
            refine gx_top (y := nI 1) (by rw [hkd, hkd2]) ?_
            refine gx_iconst X d_Mo_isTrue_120 (v := nI 1) (by decide) ?_
            refine gx_icmp_eq X d_Mo_isTrue_121 (tgt := 127) (by decide) (fun h121 => ?_) (fun h121 => ?_)
            · refine gx_iconst X d_Mo_isTrue_127 (v := nI 0) (by decide) ?_
              refine gx_istore X d_Mo_isTrue_128 (by decide) ?_
              exact gx_el (inner x 0 (by omega)) ⟨rfl, rfl, rfl, rfl, rfl, trivial⟩
            · exact absurd rfl h121
          · exact absurd h104 (by decide)
  -- the sets, from the end on
  have loop1 : ∀ (c0 : Nat) (G : Nat → Nat → Int32) (M : Nat → Nat → Int64), c0 ≤ es.length → (∀ a, a ≠ 56 → M a = L a) → (∀ a, a ≠ 55 → a ≠ 57 → G a = F a) → WkOK G (2 ^ (3 * w)) (opn w ek ev tg (es.drop c0)) → (∀ k, c0 ≤ k → k ≤ es.length → ∀ q, q < 2 ^ (3 * w) → bB M 56 (8 * k) q = opn w ek ev tg (es.drop k) q) → GX p l e rm_Mo_isTrue s m args below meth c (MQ below (gxQ D vcl ca ks lay ad s.heap.size post) args s 0 0 (gxA ks ad s.heap.size)) 5 A D vcl ca ks lay ad 0 0 38 [(1, xI (nI c0 - nI 1)), (0, xR 40)] [] G M := by
    intro c0
    induction c0 with
    | zero =>
      intro G M hc hM f1 hW hsets
      refine gx_iload_n X d_Mo_isTrue_38 rfl rfl ?_
      refine gx_if_lt X d_Mo_isTrue_39 (tgt := 63) (by decide) (fun h39 => ?_) (fun h39 => ?_)
      · refine gx_aload_n X d_Mo_isTrue_63 rfl rfl ?_
        refine gx_iconst X d_Mo_isTrue_64 (v := nI 0) (by decide) ?_
        refine gx_iconst X d_Mo_isTrue_65 (v := nI 0) (by decide) ?_
        refine gx_callV X d_Mo_isTrue_66 mf_Mo_isIn lk_Mo_180 (c_Mo_isIn HX (e0 := 0) (q := 0) (by omega) (by omega)) (HX _ rfl).1 (HX _ rfl).2 rfl rfl rfl (Nat.le_of_ble_eq_true rfl) ⟨by decide, by decide⟩ ⟨rfl, rfl⟩ ⟨Nat.zero_le _, Nat.zero_le _⟩ (fun r66 F66 L66 hp66 => ?_)
        obtain ⟨rfl, rfl, rfl⟩ := hp66
        have h00 : bB L66 56 (8 * 0) 0 = opn w ek ev tg es 0 := by
          have := hsets 0 (by omega) (by omega) 0 hN0
          rwa [List.drop_zero] at this
        rw [h00]
        cases hop : opn w ek ev tg es 0 with
        | false =>
          rw [hop] at K
          refine gx_if_ne X d_Mo_isTrue_69 (tgt := 74) (by decide) (fun h69 => ?_) (fun h69 => ?_)
          · exact absurd rfl h69
          · refine gx_iconst X d_Mo_isTrue_72 (v := nI 0) (by decide) ?_
            refine gx_zret X hr (by first | rfl | decide) hA d_Mo_isTrue_73 (K _ _ _ ⟨rfl, hM, fun a b1 b2 b3 b4 => f1 a b3 b4, fun j _ => by rw [f1 40 (by decide) (by decide)], fun _ => by rw [f1 40 (by decide) (by decide)], fun z => (by cases z)⟩)
        | true =>
          refine gx_if_ne X d_Mo_isTrue_69 (tgt := 74) (by decide) (fun h69 => ?_) (fun h69 => ?_)
          · refine gx_iconst X d_Mo_isTrue_74 (v := nI 0) (by decide) ?_
            refine gx_istore_n X d_Mo_isTrue_75 rfl (by decide) ?_
            refine gx_aload_n X d_Mo_isTrue_76 rfl rfl ?_
            refine gx_iconst X d_Mo_isTrue_77 (v := nI 0) (by decide) ?_
            refine gx_puti X d_Mo_isTrue_78 (gci in_Mo) (HX _ rfl).1 (HX _ rfl).2 rfl 23 (by decide) (gcw X lk_Mo_126) (fun _ h => h) t_Mo ty_Mo nm_Mo rfl (ty_Mo 23 (by decide)) rfl rfl rfl ?_
            refine gx_iconst X d_Mo_isTrue_81 (v := nI 0) (by decide) ?_
            refine gx_istore_n X d_Mo_isTrue_82 rfl (by decide) ?_
            refine gx_el (loop2 hop L66 hM (fun k hk q hq => hsets k (Nat.zero_le _) hk q hq) es.length 0 0 [] _ (by omega) hN0 (by rw [List.drop_zero]; exact hop) (by simp) (by rw [List.drop_zero]; exact hall) (fun a b1 b2 b3 b4 => by rw [gxu_cell b1]; exact f1 a b3 b4) (fun j b1 => by rw [gxu_ne (fun z => b1 z.2), f1 40 (by decide) (by decide)]) gxu_at (fun i hi => absurd hi (Nat.not_lt_zero i))) ⟨rfl, rfl, rfl, trivial⟩
          · exact absurd h69 (by decide)
      · exact absurd (show nI 0 - nI 1 < 0 by decide) h39
    | succ c0 ih =>
      intro G M hc hM f1 hW hsets
      have hsub : nI (c0 + 1) - nI 1 = nI c0 := by rw [pk_sub (by omega)]; rfl
      obtain ⟨a1, a2⟩ := p3 c0 (by omega)
      rw [hsub]
      refine gx_iload_n X d_Mo_isTrue_38 rfl rfl ?_
      refine gx_if_lt X d_Mo_isTrue_39 (tgt := 63) (by decide) (fun h39 => ?_) (fun h39 => ?_)
      · exact absurd h39 (nI_pos (by omega))
      · have hS2 : MsOK G w := hS.of (fun j hj => by rw [f1 40 (by decide) (by decide)])
        have hE2 : MeOK G M w ne ef et ek ev tg := hE.of (by rw [f1 40 (by decide) (by decide)]) (fun a ha => f1 a (by omega) (by omega)) (hM 46 (by decide))
        refine gx_aload_n X d_Mo_isTrue_42 rfl rfl ?_
        refine gx_aload_n X d_Mo_isTrue_43 rfl rfl ?_
        refine gx_getr X d_Mo_isTrue_44 (gci in_Mo) (HX _ rfl).1 (HX _ rfl).2 rfl 22 (by decide) (gcw X lk_Mo_54) (fun _ h => h) rfl ?_
        refine gx_iload_n X d_Mo_isTrue_47 rfl rfl ?_
        refine gx_iald X d_Mo_isTrue_48 (HX _ rfl).1 (HX _ rfl).2 rfl (by omega) (by omega) ?_
        refine gx_top (y := nI (es.getD c0 0)) (by rw [f1 53 (by decide) (by decide)]; exact a1) ?_
        refine gx_callV X d_Mo_isTrue_49 mf_Mo_before lk_Mo_187 (c_Mo_before HX hS2 hE2 hW a2) (HX _ rfl).1 (HX _ rfl).2 rfl rfl rfl (Nat.le_of_ble_eq_true rfl) ⟨by decide, by decide⟩ ⟨rfl, rfl⟩ ⟨Nat.zero_le _, Nat.zero_le _⟩ (fun r49 F49 L49 hp49 => ?_)
        obtain ⟨rfl, rfl, m1, m2⟩ := hp49
        have m2 : WkOK F49 (2 ^ (3 * w)) (opn w ek ev tg (es.drop c0)) := by
          rw [drop_at (by omega)]
          exact m2
        refine gx_aload_n X d_Mo_isTrue_52 rfl rfl ?_
        refine gx_iload_n X d_Mo_isTrue_53 rfl rfl ?_
        refine gx_callV X d_Mo_isTrue_54 mf_Mo_store lk_Mo_183 (c_Mo_store HX (hS2.of (fun j hj => by rw [m1 40 (by decide) (by decide)])) m2 (k := c0) (by omega)) (HX _ rfl).1 (HX _ rfl).2 rfl rfl rfl (Nat.le_of_ble_eq_true rfl) ⟨by decide, by decide⟩ ⟨rfl, rfl⟩ ⟨Nat.zero_le _, Nat.zero_le _⟩ (fun r54 F54 L54 hp54 => ?_)
        obtain ⟨rfl, rfl, s1, s2, s3⟩ := hp54
        refine gx_iinc X d_Mo_isTrue_57 rfl (v := nI c0 - nI 1) (sub_m1 _) ?_
        refine gx_goto X d_Mo_isTrue_60 (tgt := 38) (by decide) ?_
        refine gx_el (ih F54 L54 (by omega) (fun a b1 => by rw [s1 a b1]; exact hM a b1) (fun a b1 b2 => by rw [m1 a b1 b2]; exact f1 a b1 b2) m2 (fun k b1 b2 q hq => ?_)) ⟨rfl, rfl, trivial⟩
        by_cases e1 : k = c0
        · rw [e1]; exact s3 q hq
        · rw [← hsets k (by omega) b2 q hq]
          unfold bB
          rw [s2 _ (by omega)]
  have loop0 : ∀ (d i : Nat) (G : Nat → Nat → Int32), i + d = 2 ^ (3 * w) → (∀ a, a ≠ 57 → G a = F a) → (∀ q, q < i → G 57 q = 1) → GX p l e rm_Mo_isTrue s m args below meth c (MQ below (gxQ D vcl ca ks lay ad s.heap.size post) args s 0 0 (gxA ks ad s.heap.size)) 5 A D vcl ca ks lay ad 0 0 2 [(1, xI (nI i)), (0, xR 40)] [] G L := by
    intro d
    induction d with
    | zero =>
      intro i G hd f1 f2
      have hS2 : MsOK G w := hS.of (fun j hj => by rw [f1 40 (by decide)])
      have hW : WkOK G (2 ^ (3 * w)) (opn w ek ev tg (es.drop es.length)) := fun q hq => by
        rw [List.drop_length, f2 q (by omega)]
        rfl
      refine gx_iload_n X d_Mo_isTrue_2 rfl rfl ?_
      refine gx_aload_n X d_Mo_isTrue_3 rfl rfl ?_
      refine gx_geti X d_Mo_isTrue_4 (gci in_Mo) (HX _ rfl).1 (HX _ rfl).2 rfl 2 (by decide) (gcw X lk_Mo_82) (fun _ h => h) rfl ?_
      refine gx_top hS2.2.2.2 ?_
      refine gx_icmp_ge X d_Mo_isTrue_7 (tgt := 23) (by decide) (fun h7 => ?_) (fun h7 => ?_)
      · refine gx_aload_n X d_Mo_isTrue_23 rfl rfl ?_
        refine gx_aload_n X d_Mo_isTrue_24 rfl rfl ?_
        refine gx_geti X d_Mo_isTrue_25 (gci in_Mo) (HX _ rfl).1 (HX _ rfl).2 rfl 21 (by decide) (gcw X lk_Mo_51) (fun _ h => h) rfl ?_
        refine gx_top (y := nI es.length) (by rw [f1 40 (by decide)]; exact p2) ?_
        refine gx_callV X d_Mo_isTrue_28 mf_Mo_store lk_Mo_183 (c_Mo_store HX hS2 hW (k := es.length) (by omega)) (HX _ rfl).1 (HX _ rfl).2 rfl rfl rfl (Nat.le_of_ble_eq_true rfl) ⟨by decide, by decide⟩ ⟨rfl, rfl⟩ ⟨Nat.zero_le _, Nat.zero_le _⟩ (fun r28 F28 L28 hp28 => ?_)
        obtain ⟨rfl, rfl, s1, s2, s3⟩ := hp28
        refine gx_aload_n X d_Mo_isTrue_31 rfl rfl ?_
        refine gx_geti X d_Mo_isTrue_32 (gci in_Mo) (HX _ rfl).1 (HX _ rfl).2 rfl 21 (by decide) (gcw X lk_Mo_51) (fun _ h => h) rfl ?_
        refine gx_top (y := nI es.length) (by rw [f1 40 (by decide)]; exact p2) ?_
        refine gx_iconst X d_Mo_isTrue_35 (v := nI 1) (by decide) ?_
        refine gx_isub X d_Mo_isTrue_36 ?_
        refine gx_istore_n X d_Mo_isTrue_37 rfl (by decide) ?_
        refine gx_el (loop1 es.length F28 L28 (Nat.le_refl _) s1 (fun a b1 b2 => f1 a b2) hW (fun k b1 b2 q hq => ?_)) ⟨rfl, rfl, trivial⟩
        rw [show k = es.length by omega]
        exact s3 q hq
      · exact absurd ((nI_leI (by omega) (by omega)).mpr (by omega)) h7
    | succ d ih =>
      intro i G hd f1 f2
      refine gx_iload_n X d_Mo_isTrue_2 rfl rfl ?_
      refine gx_aload_n X d_Mo_isTrue_3 rfl rfl ?_
      refine gx_geti X d_Mo_isTrue_4 (gci in_Mo) (HX _ rfl).1 (HX _ rfl).2 rfl 2 (by decide) (gcw X lk_Mo_82) (fun _ h => h) rfl ?_
      refine gx_top (y := nI (2 ^ (3 * w))) (by rw [f1 40 (by decide)]; exact hS.2.2.2) ?_
      refine gx_icmp_ge X d_Mo_isTrue_7 (tgt := 23) (by decide) (fun h7 => ?_) (fun h7 => ?_)
      · exact absurd ((nI_leI (by omega) (by omega)).mp h7) (by omega)
      · refine gx_aload_n X d_Mo_isTrue_10 rfl rfl ?_
        refine gx_getr X d_Mo_isTrue_11 (gci in_Mo) (HX _ rfl).1 (HX _ rfl).2 rfl 28 (by decide) (gcw X lk_Mo_66) (fun _ h => h) rfl ?_
        refine gx_iload_n X d_Mo_isTrue_14 rfl rfl ?_
        refine gx_iconst X d_Mo_isTrue_15 (v := nI 1) (by decide) ?_
        refine gx_zast X d_Mo_isTrue_16 (v := 1) (HX _ rfl).1 (HX _ rfl).2 rfl (by omega) (by omega) (by first | decide | exact zn_cond _) ?_
        refine gx_iinc X d_Mo_isTrue_17 rfl (pu_inc _) ?_
        refine gx_goto X d_Mo_isTrue_20 (tgt := 2) (by decide) ?_
        refine gx_el (ih (i + 1) _ (by omega) (fun a b1 => by rw [gxu_cell b1]; exact f1 a b1) (fun q hq => ?_)) ⟨rfl, rfl, trivial⟩
        by_cases e1 : q = i
        · rw [e1, gxu_at]
        · rw [gxu_ne (fun z => e1 z.2)]; exact f2 q (by omega)
  refine gx_iconst X d_Mo_isTrue_0 (v := nI 0) (by decide) ?_
  refine gx_istore_n X d_Mo_isTrue_1 rfl (by decide) ?_
  exact gx_el (loop0 (2 ^ (3 * w)) 0 F (by omega) (fun _ _ => rfl) (fun q hq => absurd hq (Nat.not_lt_zero q))) ⟨rfl, rfl, trivial⟩
end
