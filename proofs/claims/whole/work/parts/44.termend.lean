section
variable {l : Launch} {D : va_G} {ca : Nat → ClassId} {ks : List Nat} {lay : Nat → gxE} {ad : Nat → Nat} {F : Nat → Nat → Int32} {L : Nat → Nat → Int64} {N n : Nat}
def teI (o : Option Nat) : Int32 := match o with
  | none => -1
  | some i => nI i
def duI (b : Bool) : Int32 := cond b (nI 1) (nI 0)
set_option maxHeartbeats 4000000 in
theorem c_Mo_termEnd (HX : gH ks lay N sM) (hn : n ≤ 24) (h5 : F 40 5 = nI n) {b : Nat} (hb : b ≤ 25) : Con l y_Mo_termEnd (Cond.code y_Mo_termEnd b_Mo_termEnd 7 (some .int) :: WT) rm_Mo_termEnd D vcl ca ks lay ad [xR 40, xI (nI b)] F L (fun r F' L' => r = some (xI (teI (sc n (F 41) 0 true b))) ∧ F' = F ∧ L' = L) := by
  generalize hz : sc n (F 41) 0 true b = z
  refine Con.ofK (fun post K => ?_)
  refine Con.of (ls := [(0, xR 40), (1, xI (nI b))]) (by decide) rfl rfl (Nat.le_of_ble_eq_true rfl) ?_
  intro p e s m args below meth c A X hr hA
  refine gx_iconst X d_Mo_termEnd_0 (v := nI 0) (by decide) ?_
  refine gx_istore_n X d_Mo_termEnd_1 rfl (by decide) ?_
  refine gx_iconst X d_Mo_termEnd_2 (v := nI 1) (by decide) ?_
  refine gx_istore_n X d_Mo_termEnd_3 rfl (by decide) ?_
  refine gx_iload_n X d_Mo_termEnd_4 rfl rfl ?_
  refine gx_istore X d_Mo_termEnd_5 (by decide) ?_
  refine gx_iconst X d_Mo_termEnd_7 (v := nI 1) (by decide) ?_
  refine gx_istore X d_Mo_termEnd_8 (by decide) ?_
  have fin : ∀ (d i : Nat) (due : Bool), d ≤ 4 → i ≤ 25 → (if due = true ∨ 0 < d then none else some i) = z → GX p l e rm_Mo_termEnd s m args below meth c (MQ below (gxQ D vcl ca ks lay ad s.heap.size post) args s 0 0 (gxA ks ad s.heap.size)) 7 A D vcl ca ks lay ad 0 0 137 [(4, xI (nI i)), (3, xI (duI due)), (2, xI (nI d)), (0, xR 40)] [] F L := by
    intro d i due hd hi hrr
    have no : z = none → GX p l e rm_Mo_termEnd s m args below meth c (MQ below (gxQ D vcl ca ks lay ad s.heap.size post) args s 0 0 (gxA ks ad s.heap.size)) 7 A D vcl ca ks lay ad 0 0 145 [(4, xI (nI i)), (3, xI (duI due)), (2, xI (nI d)), (0, xR 40)] [] F L := by
      intro e
      rw [e] at K
      refine gx_iconst X d_Mo_termEnd_145 (v := (-1)) (by decide) ?_
      refine gx_goto X d_Mo_termEnd_146 (tgt := 151) (by decide) ?_
      refine gx_iret X hr hA d_Mo_termEnd_151 (K _ _ _ ⟨rfl, rfl, rfl⟩)
    refine gx_iload_n X d_Mo_termEnd_137 rfl rfl ?_
    refine gx_if_ne X d_Mo_termEnd_138 (tgt := 145) (by decide) (fun h138 => ?_) (fun h138 => ?_)
    · cases due with
      | true => exact no (by rw [← hrr, if_pos (Or.inl rfl)])
      | false => exact absurd rfl h138
    · refine gx_iload_n X d_Mo_termEnd_141 rfl rfl ?_
      refine gx_if_le X d_Mo_termEnd_142 (tgt := 149) (by decide) (fun h142 => ?_) (fun h142 => ?_)
      · have hd0 : d = 0 := by
          have := (nI_leI (a := d) (b := 0) (by omega) (by decide)).mp h142
          omega
        cases due with
        | true => exact absurd h138 (by decide)
        | false =>
          rw [if_neg (by simp [hd0])] at hrr
          rw [← hrr] at K
          refine gx_iload X d_Mo_termEnd_149 rfl ?_
          refine gx_iret X hr hA d_Mo_termEnd_151 (K _ _ _ ⟨rfl, rfl, rfl⟩)
      · exact no (by
          have hd0 : 0 < d := Nat.lt_of_not_le (fun q => h142 ((nI_leI (a := d) (b := 0) (by omega) (by decide)).mpr q))
          rw [← hrr, if_pos (Or.inr hd0)])
  have loop : ∀ (r d i : Nat) (due : Bool), n ≤ i + r → d ≤ 4 → i ≤ 25 → sc n (F 41) d due i = z → GX p l e rm_Mo_termEnd s m args below meth c (MQ below (gxQ D vcl ca ks lay ad s.heap.size post) args s 0 0 (gxA ks ad s.heap.size)) 7 A D vcl ca ks lay ad 0 0 10 [(5, xI (nI 1)), (4, xI (nI i)), (3, xI (duI due)), (2, xI (nI d)), (0, xR 40)] [] F L := by
    intro r
    induction r with
    | zero =>
      intro d i due hr hd hi hres
      rw [sc_step, if_neg (by omega)] at hres
      refine gx_iload X d_Mo_termEnd_10 rfl ?_
      refine gx_aload_n X d_Mo_termEnd_12 rfl rfl ?_
      refine gx_geti X d_Mo_termEnd_13 (gci in_Mo) (HX _ rfl).1 (HX _ rfl).2 rfl 5 (by decide) (gcw X lk_Mo_88) (fun _ h => h) rfl ?_
      refine gx_top h5 ?_
      refine gx_icmp_ge X d_Mo_termEnd_16 (tgt := 137) (by decide) (fun h16 => ?_) (fun h16 => ?_)
      · exact gx_el (fin d i due hd hi hres) ⟨rfl, rfl, rfl, rfl, trivial⟩
      · exact absurd ((nI_leI (by omega) (by omega)).mpr (by omega)) h16
    | succ r ih =>
      intro d i due hr hd hi hres
      rw [sc_step] at hres
      refine gx_iload X d_Mo_termEnd_10 rfl ?_
      refine gx_aload_n X d_Mo_termEnd_12 rfl rfl ?_
      refine gx_geti X d_Mo_termEnd_13 (gci in_Mo) (HX _ rfl).1 (HX _ rfl).2 rfl 5 (by decide) (gcw X lk_Mo_88) (fun _ h => h) rfl ?_
      refine gx_top h5 ?_
      refine gx_icmp_ge X d_Mo_termEnd_16 (tgt := 137) (by decide) (fun h16 => ?_) (fun h16 => ?_)
      · have hge : ¬ i < n := Nat.not_lt.mpr ((nI_leI (by omega) (by omega)).mp h16)
        rw [if_neg hge] at hres
        exact gx_el (fin d i due hd hi hres) ⟨rfl, rfl, rfl, rfl, trivial⟩
      · have hlt : i < n := Nat.lt_of_not_le (fun q => h16 ((nI_leI (by omega) (by omega)).mpr q))
        rw [if_pos hlt] at hres
        refine gx_iload X d_Mo_termEnd_19 rfl ?_
        refine gx_if_eq X d_Mo_termEnd_21 (tgt := 137) (by decide) (fun h21 => ?_) (fun h21 => ?_)
        · exact absurd h21 (by decide)
        · refine gx_aload_n X d_Mo_termEnd_24 rfl rfl ?_
          refine gx_iload X d_Mo_termEnd_25 rfl ?_
          refine gx_callV X d_Mo_termEnd_27 mf_Mo_at lk_Mo_91 (c_Mo_at HX hn h5 (i := i) (by omega)) (HX _ rfl).1 (HX _ rfl).2 rfl rfl rfl (Nat.le_of_ble_eq_true rfl) ⟨by decide, by decide⟩ ⟨rfl, rfl⟩ ⟨Nat.zero_le _, Nat.zero_le _⟩ (fun r27 F27 L27 hp27 => ?_)
          obtain ⟨rfl, rfl, rfl⟩ := hp27
          generalize hch : lnAt n (F27 41) i = ch at *
          have next : ∀ (d' : Nat) (due' : Bool), d' ≤ 4 → sc n (F27 41) d' due' (i + 1) = z → GX p l e rm_Mo_termEnd s m args below meth c (MQ below (gxQ D vcl ca ks lay ad s.heap.size post) args s 0 0 (gxA ks ad s.heap.size)) 7 A D vcl ca ks lay ad 0 0 126 [(6, xI ch), (5, xI (nI 1)), (4, xI (nI i)), (3, xI (duI due')), (2, xI (nI d')), (0, xR 40)] [] F27 L27 := by
            intro d' due' hd' hr'
            refine gx_iload X d_Mo_termEnd_126 rfl ?_
            refine gx_if_eq X d_Mo_termEnd_128 (tgt := 134) (by decide) (fun h128 => ?_) (fun h128 => ?_)
            · exact absurd h128 (by decide)
            · refine gx_iinc X d_Mo_termEnd_131 rfl (pu_inc _) ?_
              refine gx_goto X d_Mo_termEnd_134 (tgt := 10) (by decide) ?_
              exact gx_el (ih d' (i + 1) due' (by omega) hd' (by omega) hr') ⟨rfl, rfl, rfl, rfl, rfl, trivial⟩
          have stop : (if due = true ∨ 0 < d then none else some i) = z → GX p l e rm_Mo_termEnd s m args below meth c (MQ below (gxQ D vcl ca ks lay ad s.heap.size post) args s 0 0 (gxA ks ad s.heap.size)) 7 A D vcl ca ks lay ad 0 0 123 [(6, xI ch), (5, xI (nI 1)), (4, xI (nI i)), (3, xI (duI due)), (2, xI (nI d)), (0, xR 40)] [] F27 L27 := by
            intro hr'
            refine gx_iconst X d_Mo_termEnd_123 (v := nI 0) (by decide) ?_
            refine gx_istore X d_Mo_termEnd_124 (by decide) ?_
            refine gx_iload X d_Mo_termEnd_126 rfl ?_
            refine gx_if_eq X d_Mo_termEnd_128 (tgt := 134) (by decide) (fun h128 => ?_) (fun h128 => ?_)
            · refine gx_goto X d_Mo_termEnd_134 (tgt := 10) (by decide) ?_
              refine gx_iload X d_Mo_termEnd_10 rfl ?_
              refine gx_aload_n X d_Mo_termEnd_12 rfl rfl ?_
              refine gx_geti X d_Mo_termEnd_13 (gci in_Mo) (HX _ rfl).1 (HX _ rfl).2 rfl 5 (by decide) (gcw X lk_Mo_88) (fun _ h => h) rfl ?_
              refine gx_top h5 ?_
              refine gx_icmp_ge X d_Mo_termEnd_16 (tgt := 137) (by decide) (fun h16 => ?_) (fun h16 => ?_)
              · exact gx_el (fin d i due hd hi hr') ⟨rfl, rfl, rfl, rfl, trivial⟩
              · refine gx_iload X d_Mo_termEnd_19 rfl ?_
                refine gx_if_eq X d_Mo_termEnd_21 (tgt := 137) (by decide) (fun h21 => ?_) (fun h21 => ?_)
                · exact gx_el (fin d i due hd hi hr') ⟨rfl, rfl, rfl, rfl, trivial⟩
                · exact absurd rfl h21
            · exact absurd rfl h128
          cases due with
          | true =>
            have at63 : ¬ (isDig ch = true ∨ isVar ch = true) → GX p l e rm_Mo_termEnd s m args below meth c (MQ below (gxQ D vcl ca ks lay ad s.heap.size post) args s 0 0 (gxA ks ad s.heap.size)) 7 A D vcl ca ks lay ad 0 0 63 [(6, xI ch), (5, xI (nI 1)), (4, xI (nI i)), (3, xI (duI true)), (2, xI (nI d)), (0, xR 40)] [] F27 L27 := by
              intro hl
              rw [if_neg (fun q => hl q.2)] at hres
              have at85 : ¬ (ch = nI 40 ∧ d < 4) → GX p l e rm_Mo_termEnd s m args below meth c (MQ below (gxQ D vcl ca ks lay ad s.heap.size post) args s 0 0 (gxA ks ad s.heap.size)) 7 A D vcl ca ks lay ad 0 0 85 [(6, xI ch), (5, xI (nI 1)), (4, xI (nI i)), (3, xI (duI true)), (2, xI (nI d)), (0, xR 40)] [] F27 L27 := by
                intro h4
                rw [if_neg (fun q => h4 q.2), if_neg (by simp), if_neg (by simp)] at hres
                refine gx_iload_n X d_Mo_termEnd_85 rfl rfl ?_
                refine gx_if_ne X d_Mo_termEnd_86 (tgt := 106) (by decide) (fun h86 => ?_) (fun h86 => ?_)
                · refine gx_iload_n X d_Mo_termEnd_106 rfl rfl ?_
                  refine gx_if_ne X d_Mo_termEnd_107 (tgt := 123) (by decide) (fun h107 => ?_) (fun h107 => ?_)
                  · exact stop hres
                  · exact absurd h107 (by decide)
                · exact absurd h86 (by decide)
              refine gx_iload_n X d_Mo_termEnd_63 rfl rfl ?_
              refine gx_if_eq X d_Mo_termEnd_64 (tgt := 85) (by decide) (fun h64 => ?_) (fun h64 => ?_)
              · exact absurd h64 (by decide)
              · refine gx_iload X d_Mo_termEnd_67 rfl ?_
                refine gx_bipush X d_Mo_termEnd_69 (v := nI 40) (by decide) ?_
                refine gx_icmp_ne X d_Mo_termEnd_71 (tgt := 85) (by decide) (fun h71 => ?_) (fun h71 => ?_)
                · exact at85 (fun q => h71 q.1)
                · refine gx_iload_n X d_Mo_termEnd_74 rfl rfl ?_
                  refine gx_iconst X d_Mo_termEnd_75 (v := nI 4) (by decide) ?_
                  refine gx_icmp_ge X d_Mo_termEnd_76 (tgt := 85) (by decide) (fun h76 => ?_) (fun h76 => ?_)
                  · exact at85 (fun q => absurd ((nI_leI (a := 4) (b := d) (by decide) (by omega)).mp h76) (by omega))
                  · have hd4 : d < 4 := Nat.lt_of_not_le (fun q => h76 ((nI_leI (a := 4) (b := d) (by decide) (by omega)).mpr q))
                    rw [if_pos ⟨rfl, h71, hd4⟩] at hres
                    refine gx_iinc X d_Mo_termEnd_79 rfl (pu_inc _) ?_
                    refine gx_goto X d_Mo_termEnd_82 (tgt := 126) (by decide) ?_
                    exact gx_el (next (d + 1) true (by omega) hres) ⟨rfl, rfl, rfl, rfl, rfl, rfl, trivial⟩
            have at58 : (isDig ch = true ∨ isVar ch = true) → GX p l e rm_Mo_termEnd s m args below meth c (MQ below (gxQ D vcl ca ks lay ad s.heap.size post) args s 0 0 (gxA ks ad s.heap.size)) 7 A D vcl ca ks lay ad 0 0 58 [(6, xI ch), (5, xI (nI 1)), (4, xI (nI i)), (3, xI (duI true)), (2, xI (nI d)), (0, xR 40)] [] F27 L27 := by
              intro hl
              rw [if_pos ⟨rfl, hl⟩] at hres
              refine gx_iconst X d_Mo_termEnd_58 (v := nI 0) (by decide) ?_
              refine gx_istore_n X d_Mo_termEnd_59 rfl (by decide) ?_
              refine gx_goto X d_Mo_termEnd_60 (tgt := 126) (by decide) ?_
              exact gx_el (next d false hd hres) ⟨rfl, rfl, rfl, rfl, rfl, rfl, trivial⟩
            have at50 : isDig ch = false → GX p l e rm_Mo_termEnd s m args below meth c (MQ below (gxQ D vcl ca ks lay ad s.heap.size post) args s 0 0 (gxA ks ad s.heap.size)) 7 A D vcl ca ks lay ad 0 0 50 [(6, xI ch), (5, xI (nI 1)), (4, xI (nI i)), (3, xI (duI true)), (2, xI (nI d)), (0, xR 40)] [] F27 L27 := by
              intro hdg
              refine gx_iload X d_Mo_termEnd_50 rfl ?_
              refine gx_callS X d_Mo_termEnd_52 mf_Mo_isVariable lk_Mo_95 (c_Mo_isVariable ch) rfl rfl (Nat.le_of_ble_eq_true rfl) ⟨by decide, by decide⟩ ⟨rfl, rfl⟩ ⟨Nat.zero_le _, Nat.zero_le _⟩ (fun r52 F52 L52 hp52 => ?_)
              obtain ⟨rfl, rfl, rfl⟩ := hp52
              refine gx_if_eq X d_Mo_termEnd_55 (tgt := 63) (by decide) (fun h55 => ?_) (fun h55 => ?_)
              · exact at63 (fun q => by rw [hdg, cb_f h55] at q; simp at q)
              · exact at58 (Or.inr (cb_t h55))
            refine gx_istore X d_Mo_termEnd_30 (by decide) ?_
            refine gx_iload_n X d_Mo_termEnd_32 rfl rfl ?_
            refine gx_if_eq X d_Mo_termEnd_33 (tgt := 63) (by decide) (fun h33 => ?_) (fun h33 => ?_)
            · exact absurd h33 (by decide)
            · refine gx_iload X d_Mo_termEnd_36 rfl ?_
              refine gx_bipush X d_Mo_termEnd_38 (v := nI 48) (by decide) ?_
              refine gx_icmp_lt X d_Mo_termEnd_40 (tgt := 50) (by decide) (fun h40 => ?_) (fun h40 => ?_)
              · exact gx_el (at50 (by unfold isDig; rw [decide_eq_false (Int32.not_le.mpr h40)]; rfl)) ⟨rfl, rfl, rfl, rfl, rfl, rfl, trivial⟩
              · refine gx_iload X d_Mo_termEnd_43 rfl ?_
                refine gx_bipush X d_Mo_termEnd_45 (v := nI 55) (by decide) ?_
                refine gx_icmp_le X d_Mo_termEnd_47 (tgt := 58) (by decide) (fun h47 => ?_) (fun h47 => ?_)
                · exact gx_el (at58 (Or.inl (by unfold isDig; rw [decide_eq_true (Int32.not_lt.mp h40), decide_eq_true h47]; rfl))) ⟨rfl, rfl, rfl, rfl, rfl, rfl, trivial⟩
                · exact gx_el (at50 (by unfold isDig; rw [decide_eq_false h47, Bool.and_false])) ⟨rfl, rfl, rfl, rfl, rfl, rfl, trivial⟩
          | false =>
            rw [if_neg (by simp), if_neg (by simp)] at hres
            have at106 : ¬ (ch = nI 41 ∧ 0 < d) → GX p l e rm_Mo_termEnd s m args below meth c (MQ below (gxQ D vcl ca ks lay ad s.heap.size post) args s 0 0 (gxA ks ad s.heap.size)) 7 A D vcl ca ks lay ad 0 0 106 [(6, xI ch), (5, xI (nI 1)), (4, xI (nI i)), (3, xI (duI false)), (2, xI (nI d)), (0, xR 40)] [] F27 L27 := by
              intro h4
              rw [if_neg (fun q => h4 q.2)] at hres
              refine gx_iload_n X d_Mo_termEnd_106 rfl rfl ?_
              refine gx_if_ne X d_Mo_termEnd_107 (tgt := 123) (by decide) (fun h107 => ?_) (fun h107 => ?_)
              · exact absurd rfl h107
              · refine gx_iload X d_Mo_termEnd_110 rfl ?_
                refine gx_callS X d_Mo_termEnd_112 mf_Mo_isSign lk_Mo_99 (c_Mo_isSign ch) rfl rfl (Nat.le_of_ble_eq_true rfl) ⟨by decide, by decide⟩ ⟨rfl, rfl⟩ ⟨Nat.zero_le _, Nat.zero_le _⟩ (fun r112 F112 L112 hp112 => ?_)
                obtain ⟨rfl, rfl, rfl⟩ := hp112
                refine gx_if_eq X d_Mo_termEnd_115 (tgt := 123) (by decide) (fun h115 => ?_) (fun h115 => ?_)
                · rw [if_neg (fun q => by rw [cb_f h115] at q; cases q.2)] at hres
                  exact stop hres
                · rw [if_pos ⟨rfl, cb_t h115⟩] at hres
                  refine gx_iconst X d_Mo_termEnd_118 (v := nI 1) (by decide) ?_
                  refine gx_istore_n X d_Mo_termEnd_119 rfl (by decide) ?_
                  refine gx_goto X d_Mo_termEnd_120 (tgt := 126) (by decide) ?_
                  exact gx_el (next d true hd hres) ⟨rfl, rfl, rfl, rfl, rfl, rfl, trivial⟩
            refine gx_istore X d_Mo_termEnd_30 (by decide) ?_
            refine gx_iload_n X d_Mo_termEnd_32 rfl rfl ?_
            refine gx_if_eq X d_Mo_termEnd_33 (tgt := 63) (by decide) (fun h33 => ?_) (fun h33 => ?_)
            · refine gx_iload_n X d_Mo_termEnd_63 rfl rfl ?_
              refine gx_if_eq X d_Mo_termEnd_64 (tgt := 85) (by decide) (fun h64 => ?_) (fun h64 => ?_)
              · refine gx_iload_n X d_Mo_termEnd_85 rfl rfl ?_
                refine gx_if_ne X d_Mo_termEnd_86 (tgt := 106) (by decide) (fun h86 => ?_) (fun h86 => ?_)
                · exact absurd rfl h86
                · refine gx_iload X d_Mo_termEnd_89 rfl ?_
                  refine gx_bipush X d_Mo_termEnd_91 (v := nI 41) (by decide) ?_
                  refine gx_icmp_ne X d_Mo_termEnd_93 (tgt := 106) (by decide) (fun h93 => ?_) (fun h93 => ?_)
                  · exact gx_el (at106 (fun q => h93 q.1)) ⟨rfl, rfl, rfl, rfl, rfl, rfl, trivial⟩
                  · refine gx_iload_n X d_Mo_termEnd_96 rfl rfl ?_
                    refine gx_if_le X d_Mo_termEnd_97 (tgt := 106) (by decide) (fun h97 => ?_) (fun h97 => ?_)
                    · exact gx_el (at106 (fun q => absurd ((nI_leI (a := d) (b := 0) (by omega) (by decide)).mp h97) (by omega))) ⟨rfl, rfl, rfl, rfl, rfl, rfl, trivial⟩
                    · have hd0 : 0 < d := Nat.lt_of_not_le (fun q => h97 ((nI_leI (a := d) (b := 0) (by omega) (by decide)).mpr q))
                      obtain ⟨d', rfl⟩ : ∃ d', d = d' + 1 := ⟨d - 1, by omega⟩
                      rw [if_pos ⟨rfl, h93, hd0⟩] at hres
                      refine gx_iinc X d_Mo_termEnd_100 rfl (pu_dec _) ?_
                      refine gx_goto X d_Mo_termEnd_103 (tgt := 126) (by decide) ?_
                      exact gx_el (next d' false (by omega) hres) ⟨rfl, rfl, rfl, rfl, rfl, rfl, trivial⟩
              · exact absurd rfl h64
            · exact absurd rfl h33
  exact gx_el (loop n 0 b true (by omega) (by omega) hb hz) ⟨rfl, rfl, rfl, rfl, rfl, trivial⟩
end
