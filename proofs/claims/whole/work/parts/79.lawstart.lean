/-! the law's beginning (own text, printed by gen_start.py) -/
/-- where the cells of the law come to lie: the class's object and what it makes, the reference's, the long[]; the script lies at b -/
def adL (h b k : Nat) : Nat := if k = 61 then b else if k = 0 then h else if k = 60 then h + 280 else if 40 ≤ k ∧ k ≤ 59 then h + 260 + (k - 40) else h + 1 + posP k
theorem adL_X {h b k : Nat} (hk : sX k = true) (h0 : k ≠ 0) : adL h b k = h + 1 + posP k := by
  simp [sX] at hk
  unfold adL
  rw [if_neg (by omega), if_neg h0, if_neg (by omega), if_neg (by omega)]
theorem adL_M {h b k : Nat} (h1 : 40 ≤ k) (h2 : k ≤ 59) : adL h b k = h + 260 + (k - 40) := by
  unfold adL
  rw [if_neg (by omega), if_neg (by omega), if_neg (by omega), if_pos ⟨h1, h2⟩]
theorem gxD.nodup {A : Nat → Prop} {ks : List Nat} {ad : Nat → Nat} (h : gxD A ks ad) : ks.Nodup := by
  refine List.pairwise_iff_getElem.mpr (fun i j hi hj hij e => ?_)
  have := h.1 i j ks[i] ks[j] (List.getElem?_eq_getElem hi) (List.getElem?_eq_getElem hj) (by rw [e])
  omega
theorem ksP_mem {ks : List Nat} {a : Nat} (h : a ∈ ksP ks) (hs : sX a = false) : a ∈ ks := by
  obtain ⟨n1, n2, n3⟩ := sX_no hs
  unfold ksP at h
  rcases List.mem_cons.mp h with h | h
  · omega
  rcases List.mem_cons.mp h with h | h
  · omega
  rcases List.mem_append.mp h with h | h
  · obtain ⟨i, -, hi, e⟩ := rwL_mem.mp h
    unfold rK at e
    omega
  rcases List.mem_cons.mp h with h | h
  · omega
  rcases List.mem_cons.mp h with h | h
  · omega
  rcases List.mem_append.mp h with h | h
  · obtain ⟨i, -, hi, e⟩ := rwL_mem.mp h
    unfold rO at e
    omega
  rcases List.mem_cons.mp h with h | h
  · omega
  rcases List.mem_cons.mp h with h | h
  · omega
  rcases List.mem_cons.mp h with h | h
  · omega
  rcases List.mem_cons.mp h with h | h
  · omega
  rcases List.mem_cons.mp h with h | h
  · omega
  rcases List.mem_cons.mp h with h | h
  · omega
  rcases List.mem_cons.mp h with h | h
  · omega
  rcases List.mem_cons.mp h with h | h
  · omega
  rcases List.mem_cons.mp h with h | h
  · omega
  rcases List.mem_cons.mp h with h | h
  · omega
  rcases List.mem_cons.mp h with h | h
  · omega
  rcases List.mem_cons.mp h with h | h
  · omega
  rcases List.mem_cons.mp h with h | h
  · omega
  rcases List.mem_cons.mp h with h | h
  · omega
  rcases List.mem_cons.mp h with h | h
  · omega
  rcases List.mem_cons.mp h with h | h
  · omega
  rcases List.mem_cons.mp h with h | h
  · omega
  rcases List.mem_cons.mp h with h | h
  · omega
  rcases List.mem_cons.mp h with h | h
  · omega
  rcases List.mem_cons.mp h with h | h
  · omega
  rcases List.mem_append.mp h with h | h
  · obtain ⟨i, -, hi, e⟩ := rwL_mem.mp h
    unfold rT at e
    omega
  rcases List.mem_cons.mp h with h | h
  · omega
  rcases List.mem_cons.mp h with h | h
  · omega
  rcases List.mem_cons.mp h with h | h
  · omega
  rcases List.mem_cons.mp h with h | h
  · omega
  rcases List.mem_cons.mp h with h | h
  · omega
  rcases List.mem_cons.mp h with h | h
  · omega
  rcases List.mem_cons.mp h with h | h
  · omega
  rcases List.mem_cons.mp h with h | h
  · omega
  rcases List.mem_cons.mp h with h | h
  · omega
  rcases List.mem_cons.mp h with h | h
  · omega
  rcases List.mem_cons.mp h with h | h
  · omega
  exact h
theorem ksP_sub {ks : List Nat} {a : Nat} (h : a ∈ ks) : a ∈ ksP ks := by
  unfold ksP
  simp only [List.mem_cons, List.mem_append]
  simp only [h, or_true]
section LWS
variable {p : Program} {l : Launch} {e : Env} {s : State} {m : MethodId} {args : Array Value} {below : List Frame} {meth : Method} {c : Code} {Q : State → Prop} {A : Nat → Prop} {D : va_G} {ca : Nat → ClassId} {lay : Nat → gxE}
variable {F : Nat → Nat → Int32} {L : Nat → Nat → Int64} {c0 : Cond} {n b : Nat} {xs : Nat → Int32}
set_option maxHeartbeats 16000000 in
theorem lw_begin (X : GC p s m args meth c b_Lw_law 7 R_Lw (c0 :: WT) A D vcl ca [] (adL s.heap.size b)) (hT : hSt s) (hN : nSt s) (hst : ∀ q, A q → ∀ cell, s.heap[q]? = some cell → cell.vm.isStatics = false) (hf : l.flags = pinnedFlags ++ [noTraceFlag]) (hV : va_X b n xs s s.heap) (hb : b < s.heap.size) (hbA : ¬ A b) (hn : n ≤ 2049)
    (E : ∀ (ks : List Nat) (lay : Nat → gxE) (cells slots : Nat) (ls : List (Nat × xV)) (F' : Nat → Nat → Int32) (L' : Nat → Nat → Int64), cells ≤ room_1.cells → slots ≤ room_1.slots → GX p l e room_1 s m args below meth c Q 7 A D vcl ca ks lay (adL s.heap.size b) cells slots 787 ls [] F' L') : GX p l e room_1 s m args below meth c Q 7 A D vcl ca [] lay (adL s.heap.size b) 0 0 0 [(0, xR 61)] [] F L := by
  generalize hx : hd0 n xs = x
  have hV : va_X (adL s.heap.size b 61) n xs s s.heap := hV
  have hb : adL s.heap.size b 61 < s.heap.size := hb
  have hbA : ¬ A (adL s.heap.size b 61) := hbA
  have hn31 : n < 2 ^ 31 := by omega
  generalize had : adL s.heap.size b = ad at *
  have a0 : ad 0 = s.heap.size + 0 := by rw [← had]; rfl
  have aX : ∀ k, sX k = true → k ≠ 0 → ad k = s.heap.size + 1 + posP k := fun k h1 h2 => by rw [← had]; exact adL_X h1 h2
  have aM : ∀ k, 40 ≤ k → k ≤ 59 → ad k = s.heap.size + 260 + (k - 40) := fun k h1 h2 => by rw [← had]; exact adL_M h1 h2
  have a60 : ad 60 = s.heap.size + 280 := by rw [← had]; rfl
  refine gx_new X (ci := 0) (fs := [some 9999, some 9999, some 9999, some 9999, some 9999, some 9999, some 9999, some 9999, some 9999, none]) 0 d_Lw_law_0 (gci in_PP) t_PP ty_PP (gcw X wc_Lw_8) (gcw X wn_PP) (gcw X wi_PP) rfl (by decide) (Nat.le_of_ble_eq_true rfl) (Nat.le_of_ble_eq_true rfl) (by decide) a0 (Or.inl rfl) (fun X => ?_)
  refine gx_dup X d_Lw_law_3 rfl ?_
  refine gx_aload_n X d_Lw_law_4 rfl rfl ?_
  refine gx_iconst X d_Lw_law_5 (v := nI 0) (by decide) ?_
  refine gx_callX X hV hb hbA d_Lw_law_6 mf_Lw_cell lk_Lw_48 (c_Lw_cell hn31) rfl rfl (Nat.le_of_ble_eq_true rfl) ⟨Nat.le_of_ble_eq_true rfl, Nat.le_of_ble_eq_true rfl⟩ ⟨rfl, rfl⟩ ⟨Nat.le_of_ble_eq_true rfl, Nat.le_of_ble_eq_true rfl⟩ (fun r6 F6 L6 hp6 => ?_)
  obtain ⟨rfl, rfl, rfl⟩ := hp6
  rw [hx]
  refine gx_callI X hN d_Lw_law_9 mi_PP lk_Lw_54 rfl (n_PP_init List.mem_cons_self lyU_at x (fun k h1 h2 => by simp [h2]) aX) (Or.inr ⟨_, List.mem_cons_self, by rw [a0]⟩) rfl rfl (Nat.le_of_ble_eq_true rfl) ⟨Nat.le_of_ble_eq_true rfl, Nat.le_of_ble_eq_true rfl⟩ ⟨Nat.le_of_ble_eq_true rfl, Nat.le_of_ble_eq_true rfl⟩ (fun lay1 F1 L1 hp1 X => ?_)
  obtain ⟨g1, g2, g3⟩ := hp1
  refine gx_astore_n X d_Lw_law_12 rfl (by decide) ?_
  have nP : ∀ a, sX a = false → a ∉ ksP [0] := fun a ha h => by
    have := ksP_mem h ha
    simp at this
    subst this
    cases ha
  refine gx_new X (ci := 10) (fs := [none, none, none, none, some 9999, none, none, some 9999, some 9999, some 9999, some 9999, some 9999, none, some 9999, some 9999, none, none, some 9999, some 9999, some 9999, some 9999, none, some 9999, none, some 9999, some 9999, none, some 9999, some 9999, some 9999, some 9999]) 40 d_Lw_law_13 (gci in_Mo) t_Mo ty_Mo (gcw X wc_Lw_57) (gcw X wn_Mo) (gcw X wi_Mo) rfl (by decide) (Nat.le_of_ble_eq_true rfl) (Nat.le_of_ble_eq_true rfl) (nP 40 rfl) ((aM 40 (by decide) (by decide)).trans rfl) (Or.inr ⟨35, (g2 35 rfl).1, by rw [aX 35 rfl (by decide)]; rfl⟩) (fun X => ?_)
  refine gx_dup X d_Lw_law_16 rfl ?_
  refine gx_aload_n X d_Lw_law_17 rfl rfl ?_
  refine gx_iconst X d_Lw_law_18 (v := nI 0) (by decide) ?_
  refine gx_callX X hV hb hbA d_Lw_law_19 mf_Lw_cell lk_Lw_48 (c_Lw_cell hn31) rfl rfl (Nat.le_of_ble_eq_true rfl) ⟨Nat.le_of_ble_eq_true rfl, Nat.le_of_ble_eq_true rfl⟩ ⟨rfl, rfl⟩ ⟨Nat.le_of_ble_eq_true rfl, Nat.le_of_ble_eq_true rfl⟩ (fun r19 F19 L19 hp19 => ?_)
  obtain ⟨rfl, rfl, rfl⟩ := hp19
  rw [hx]
  refine gx_callI X hN d_Lw_law_22 mi_Mo lk_Lw_59 rfl (n_Mo_init (N := 2 ^ (3 * wdN x)) List.mem_cons_self lyU_at zF_at x (nm_cons (by decide) (nP 41 rfl)) ((aM 41 (by decide) (by decide)).trans rfl) (nm_cons (by decide) (nP 42 rfl)) ((aM 42 (by decide) (by decide)).trans rfl) (nm_cons (by decide) (nP 43 rfl)) ((aM 43 (by decide) (by decide)).trans rfl) (nm_cons (by decide) (nP 44 rfl)) ((aM 44 (by decide) (by decide)).trans rfl) (nm_cons (by decide) (nP 45 rfl)) ((aM 45 (by decide) (by decide)).trans rfl) (nm_cons (by decide) (nP 46 rfl)) ((aM 46 (by decide) (by decide)).trans rfl) (nm_cons (by decide) (nP 47 rfl)) ((aM 47 (by decide) (by decide)).trans rfl) (nm_cons (by decide) (nP 48 rfl)) ((aM 48 (by decide) (by decide)).trans rfl) (nm_cons (by decide) (nP 49 rfl)) ((aM 49 (by decide) (by decide)).trans rfl) (nm_cons (by decide) (nP 50 rfl)) ((aM 50 (by decide) (by decide)).trans rfl) (nm_cons (by decide) (nP 51 rfl)) ((aM 51 (by decide) (by decide)).trans rfl) (nm_cons (by decide) (nP 52 rfl)) ((aM 52 (by decide) (by decide)).trans rfl) (nm_cons (by decide) (nP 53 rfl)) ((aM 53 (by decide) (by decide)).trans rfl) (nm_cons (by decide) (nP 54 rfl)) ((aM 54 (by decide) (by decide)).trans rfl) (nm_cons (by decide) (nP 55 rfl)) ((aM 55 (by decide) (by decide)).trans rfl) (nm_cons (by decide) (nP 56 rfl)) ((aM 56 (by decide) (by decide)).trans rfl) (nm_cons (by decide) (nP 57 rfl)) ((aM 57 (by decide) (by decide)).trans rfl) (nm_cons (by decide) (nP 58 rfl)) ((aM 58 (by decide) (by decide)).trans rfl) (nm_cons (by decide) (nP 59 rfl)) ((aM 59 (by decide) (by decide)).trans rfl)) (Or.inr ⟨40, List.mem_cons_self, by rw [aM 40 (by decide) (by decide)]; rfl⟩) rfl rfl (Nat.le_of_ble_eq_true rfl) ⟨Nat.le_of_ble_eq_true rfl, Nat.le_of_ble_eq_true rfl⟩ ⟨Nat.le_of_ble_eq_true rfl, Nat.le_of_ble_eq_true rfl⟩ (fun lay2 F2 L2 hp2 X => ?_)
  obtain ⟨u1, u2, u3⟩ := hp2
  refine gx_astore_n X d_Lw_law_25 rfl (by decide) ?_
  refine gx_iconst X d_Lw_law_26 (v := nI 1) (by decide) ?_
  refine gx_newl X (n := 1) 60 d_Lw_law_27 (gcw X wa_long) rfl (fun h => h) (fun _ => rfl) (by omega) (by show 1 * 8 ≤ 536870912; omega) (Nat.le_of_ble_eq_true rfl) (Nat.le_of_ble_eq_true rfl) (nm_cons (by decide) (nm_cons (by decide) (nm_cons (by decide) (nm_cons (by decide) (nm_cons (by decide) (nm_cons (by decide) (nm_cons (by decide) (nm_cons (by decide) (nm_cons (by decide) (nm_cons (by decide) (nm_cons (by decide) (nm_cons (by decide) (nm_cons (by decide) (nm_cons (by decide) (nm_cons (by decide) (nm_cons (by decide) (nm_cons (by decide) (nm_cons (by decide) (nm_cons (by decide) (nm_cons (by decide) (nP 60 rfl))))))))))))))))))))) (a60.trans rfl) (Or.inr ⟨59, List.mem_cons_self, by rw [aM 59 (by decide) (by decide)]; rfl⟩) (fun X => ?_)
  refine gx_astore_n X d_Lw_law_29 rfl (by decide) ?_
  refine gx_iconst X d_Lw_law_30 (v := nI 1) (by decide) ?_
  refine gx_istore X d_Lw_law_31 (by decide) ?_
  have sX40 : ∀ k, sX k = true → ¬ (40 ≤ k ∧ k ≤ 59) ∧ k ≠ 60 := fun k hk => by
    simp [sX] at hk
    omega
  have HX : gH (60 :: 59 :: 58 :: 57 :: 56 :: 55 :: 54 :: 53 :: 52 :: 51 :: 50 :: 49 :: 48 :: 47 :: 46 :: 45 :: 44 :: 43 :: 42 :: 41 :: 40 :: ksP [0]) (lyU lay2 60 (Sum.inr (Sum.inr (Sum.inl 1)))) (2 ^ (3 * wdN x)) sX := fun k hk => by
    obtain ⟨q1, q2⟩ := sX40 k hk
    refine ⟨?_, ?_⟩
    · have := (g2 k hk).1
      simp only [List.mem_cons, this, or_true]
    · rw [lyU_ne q2, (u1 k q1).1, lyU_ne (by omega)]
      exact (g2 k hk).2
  have HM : gH (60 :: 59 :: 58 :: 57 :: 56 :: 55 :: 54 :: 53 :: 52 :: 51 :: 50 :: 49 :: 48 :: 47 :: 46 :: 45 :: 44 :: 43 :: 42 :: 41 :: 40 :: ksP [0]) (lyU lay2 60 (Sum.inr (Sum.inr (Sum.inl 1)))) (2 ^ (3 * wdN x)) sM := fun k hk => by
    have q : 40 ≤ k ∧ k ≤ 59 := by
      simp [sM] at hk
      exact hk
    refine ⟨?_, ?_⟩
    · have : k = 59 ∨ k = 58 ∨ k = 57 ∨ k = 56 ∨ k = 55 ∨ k = 54 ∨ k = 53 ∨ k = 52 ∨ k = 51 ∨ k = 50 ∨ k = 49 ∨ k = 48 ∨ k = 47 ∨ k = 46 ∨ k = 45 ∨ k = 44 ∨ k = 43 ∨ k = 42 ∨ k = 41 ∨ k = 40 := by omega
      simp only [List.mem_cons]
      omega
    · rw [lyU_ne (by omega)]
      exact u2 k q
  have H6 : gH (60 :: 59 :: 58 :: 57 :: 56 :: 55 :: 54 :: 53 :: 52 :: 51 :: 50 :: 49 :: 48 :: 47 :: 46 :: 45 :: 44 :: 43 :: 42 :: 41 :: 40 :: ksP [0]) (lyU lay2 60 (Sum.inr (Sum.inr (Sum.inl 1)))) (2 ^ (3 * wdN x)) s60 := fun k hk => by
    have q : k = 60 := Nat.eq_of_beq_eq_true hk
    subst q
    exact ⟨List.mem_cons_self, lyU_at⟩
  have hLI : LI (wdN x) F2 (zL L2 60) z0S := ⟨g3.ofX (fun a ha => by rw [(u1 a (sX40 a ha).1).2, zF_ne (by have := (sX40 a ha).1; omega)]), u3.keep (fun _ _ => rfl) (fun a _ h6 => zL_ne h6), Or.inl rfl⟩
  exact lw_loop ⟨X, hT, hst, HX, HM, H6, X.2.2.1.nodup, hf, hV, hb, hbA, hn31⟩ (c1 := 0 + 1 + 259 + 1 + 19 + 1) (s1 := 0 + 10 + 29232 + 31 + 20000 + 1) ⟨by show 0 + 1 + 259 + 1 + 19 + 1 + 600 ≤ 601024; omega, by show 0 + 10 + 29232 + 31 + 20000 + 1 + 3600 ≤ 7293000; omega⟩ (E _ _) 513 0 F2 (zL L2 60) z0S (by omega) (by omega) hLI
end LWS
