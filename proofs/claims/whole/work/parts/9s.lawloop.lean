/-! the law's loop -/
theorem LX.len {X : KX} {L : Nat} {xs : Nat → Int32} (h : LX X L xs) : L ≤ 3072 := by
  obtain ⟨⟨p, l, e, R, s, m, args, below, meth, c, Q⟩, D, ad, aC, adV, A, nc, ns⟩ := X
  exact h.2.2.2
theorem law_loop {X : KX} {L : Nat} {xs : Nat → Int32} (F : Fx shp X code 4 RL 40) (G : LX X L xs) (Ke : ∀ i m, Ok shp X 4 1354 [(3, pI i), (2, pR 0), (1, pR 20), (0, pR 9999)] [] m) : ∀ (f : Nat) (n i : Int) (m : Mem), CRx n m → 0 ≤ n → i = 6 * n → i ≤ L → (L : Int) + 6 ≤ i + 6 * f → Ok shp X 4 18 [(3, pI i), (2, pR 0), (1, pR 20), (0, pR 9999)] [] m
  | 0, n, i, m, _, _, _, h1, h2 => by omega
  | f + 1, n, i, m, ⟨mw, hC, hA⟩, hn, hi, hL, hf => by
    have g4 := G.len
    refine Ok.ag hA ?_
    refine ok_iload_n F dL_18 0 rfl ?_
    refine ok_aload_n F dL_19 3 rfl ?_
    refine ok_slen F G dL_20 ?_
    refine ok_bipush F dL_21 rfl ?_
    refine ok_isub F dL_23 ?_
    refine ok_icmp_gt F 1354 dL_24 (by decide) ⟨by omega, by omega⟩ ⟨by omega, by omega⟩ (fun _ => Ke i mw) (fun c => ?_)
    refine ok_aload_n F dL_27 3 rfl ?_
    refine ok_iload_n F dL_28 0 rfl ?_
    refine ok_sld F G (by omega) (by omega) dL_29 ?_
    refine ok_bipush F dL_30 rfl ?_
    refine ok_iand F dL_32 ?_
    refine law_table F G hC hn (by omega) (by omega) (iand63 _) (fun mv hv => ?_)
    refine ok_iinc (lv' := [(3, pI (i + 6)), (2, pR 0), (1, pR 20), (0, pR 9999)]) F dL_1348 0 rfl (by decide) rfl ?_
    refine ok_goto F 18 dL_1351 (by decide) ?_
    exact law_loop F G Ke f (n + 1) (i + 6) mv hv (by omega) (by omega) (by omega) (by omega)
