/-! ===== the reference: a command ===== -/
section
variable {s0 s s1 : Mem} {x : Tx} {i j n k : Nat} {st a b : Int32}
theorem lcp_app (x : Tx) (w2 : List Nat) : ∀ (w1 : List Nat) (i : Nat), lcp x i (w1 ++ w2) = if lcp x i w1 = w1.length then w1.length + lcp x (i + w1.length) w2 else lcp x i w1
  | [], i => by rw [if_pos (show lcp x i [] = [].length from rfl), List.nil_append]; simp
  | c :: w, i => by
    rw [List.cons_append, lcp, lcp, List.length_cons]
    by_cases q : cx x i = c
    · rw [if_pos q, if_pos q, lcp_app x w2 w (i + 1)]
      by_cases y : lcp x (i + 1) w = w.length
      · rw [if_pos y, if_pos (by omega), show i + (w.length + 1) = i + 1 + w.length by omega]; omega
      · rw [if_neg y, if_neg (by omega)]
    · rw [if_neg q, if_neg q, if_neg (by omega)]
theorem CQ.v {R : ((Nat × Nat × Nat) × Nat) ⊕ Nat} {o : Int32 ⊕ String} {s' : Mem} (h : CQ s0 R o s') : o = .inl (nI 0) ∨ o = .inl (nI 1) := by
  cases R with
  | inr e => exact Or.inl h.1
  | inl q => obtain ⟨⟨k, va, vb⟩, j⟩ := q; exact Or.inr h.1
theorem fb {X : Res Int32} {R : ((Nat × Nat × Nat) × Nat) ⊕ Nat} (h : okR X (CQ s0 R)) : okR (bindR X (fun v s => if vp_nar .boolean v = v then some (.inl v, s) else none)) (CQ s0 R) := by
  rw [okR_bindR]
  refine okR_mono h fun o s' q => ?_
  rcases q.v with rfl | rfl
  · rw [thn_l, if_pos (show vp_nar .boolean (nI 0) = nI 0 from rfl)]; exact okR_some.mpr q
  · rw [thn_l, if_pos (show vp_nar .boolean (nI 1) = nI 1 from rfl)]; exact okR_some.mpr q
theorem fz {X : Res Int32} {R : ((Nat × Nat × Nat) × Nat) ⊕ Nat} (h : okR X (CQ s0 R)) : okR (bindR X (fun v s => if v = 0 then some (.inl 0, s) else some (.inl 1, s))) (CQ s0 R) := by
  rw [okR_bindR]
  refine okR_mono h fun o s' q => ?_
  rcases q.v with rfl | rfl
  · rw [thn_l, if_pos (show nI 0 = 0 from rfl)]; exact okR_some.mpr q
  · rw [thn_l, if_neg (show ¬ nI 1 = 0 by decide)]; exact okR_some.mpr q
theorem r_word (hx : HX s0 x) (ho : InOk x) {K : Mem → Res Int32} {w : List Nat} (hw : ∀ c ∈ w, c < 1000 ∧ c ≠ 0) (hi : i ≤ x.1) (h : RI s0 s i (nI (srt n)) a b) (hK : ∀ s' P, P ≤ x.1 → RI s0 s' P (nI (srt n)) a b → okR (K s') (CQ s0 (fin x n P))) : okR (rdW K w s) (CQ s0 (if lcp x i w = w.length then fin x n (i + w.length) else .inr (i + lcp x i w))) := by
  have hr := lcp_rng x w i (fun c hc => (hw c hc).2) hi
  refine r_rdW hx ho w hw hi h (fun q s' h' => ?_) (fun q s' h' => ?_)
  · rw [if_pos q]; exact hK s' _ (by omega) h'
  · rw [if_neg q]; exact ⟨rfl, _, _, _, h'⟩
def tBx (s6 : Mem) : Res Int32 := bindP (m_X8_nextChar s6) (fun v7 => if ib (0 : Int32) 2 then vl (pI s6 1032 (0 : Int32).toNatClampNeg v7) (fun s8 => bindP (m_X8_nextChar s8) (fun v9 => bindP (m_X8_isBox v9 s8) (fun v10 => if ¬ v10 = 0 then (vl (pI s8 8 12 ((gI s8 8 12) + 1)) (fun s11 => bindR (m_X8_reads 32 s11) (fun v12 s13 => if v12 = 0 then (some (.inl 0, s13)) else (bindR (m_X8_readsDigit 1 s13) (fun v14 s15 => if v14 = 0 then (some (.inl 0, s15)) else (some (.inl 1, s15))))))) else (some (.inl 0, s8))))) else none)
theorem r_tB (hx : HX s0 x) (ho : InOk x) (hi : i ≤ 60) (h : RI s0 s i (nI (srt 10)) a b) : okR (tBx s) (CQ s0 (fin x 10 i)) := by
  have hx1 := ho.1
  have h1 : RI s0 (pI s 1032 0 (nc x i)) i (nI (srt 10)) (nc x i) b := h.ma
  unfold tBx fin
  rw [r_nextChar (h.hx hx) ho hi h.1, bP_some, if_pos (show ib (0 : Int32) 2 by decide), okR_vl, show (0 : Int32).toNatClampNeg = 0 from rfl, r_nextChar (h1.hx hx) ho hi h1.1, bP_some]
  have eb : m_X8_isBox (nc x i) (pI s 1032 0 (nc x i)) = some (bI (decide (97 ≤ cx x i ∧ cx x i ≤ 104))) := by
    unfold m_X8_isBox
    rw [show m_X8_isBetween (nc x i) 97 104 (pI s 1032 0 (nc x i)) = m_X8_isBetween (nc x i) (nI 97) (nI 104) (pI s 1032 0 (nc x i)) from rfl, r_nb ho (by decide) (by decide) (by decide), bO_some, if_pos (nar_bI _)]
  rw [eb, bP_some, show fms 10 = [66, 68] from rfl, args]
  unfold arg boxn
  rw [if_neg (show ¬ 66 = 68 by decide), if_neg (show ¬ 66 = 78 by decide)]
  by_cases z : 97 ≤ cx x i ∧ cx x i ≤ 104
  · have zi := cx_lt (x := x) (i := i) (by omega)
    have e2 : nc x i = nI (cx x i) := if_pos zi
    rw [if_pos z, decide_eq_true z, if_pos (show ¬ bI true = 0 by decide), okR_vl, h1.1, nI_1]
    rw [e2] at h1 ⊢
    have h2 : RI s0 _ (i + 1) (nI (srt 10)) (nI (cx x i)) b := h1.mi (j := i + 1)
    rw [show ∀ u : Mem, m_X8_reads 32 u = m_X8_reads (nI 32) u from fun _ => rfl, r_reads (h2.hx hx) ho (by omega) h2.1 (by decide) (by decide)]
    dsimp only
    by_cases y : cx x (i + 1) = 32
    · have yi := cx_lt (x := x) (i := i + 1) (by omega)
      rw [if_pos y, if_pos y, bR_l, if_neg (show ¬ nI 1 = 0 by decide), okR_bindR]
      refine okR_mono (r_digit hx ho (by omega) (h2.mi (j := i + 1 + 1)) (k := 1) (by decide)) fun o s2 q2 => ?_
      rw [if_pos (show 68 = 68 from rfl)]
      cases eb : num1 x (i + 1 + 1) with
      | none =>
        rw [eb] at q2
        obtain ⟨rfl, rfl⟩ := q2
        rw [thn_l, if_pos (show nI 0 = 0 from rfl), okR_some]
        exact ⟨rfl, _, _, _, h2.mi⟩
      | some wj =>
        obtain ⟨w, j2⟩ := wj
        rw [eb] at q2
        obtain ⟨rfl, q2⟩ := q2
        rw [thn_l, if_neg (show ¬ nI 1 = 0 by decide), okR_some]
        exact ⟨rfl, nI w, q2, fun _ => rfl⟩
    · rw [if_neg y, if_neg y, bR_l, if_pos (show nI 0 = 0 from rfl), okR_some]
      exact ⟨rfl, _, _, _, h2⟩
  · rw [if_neg z, decide_eq_false z, if_neg (show ¬ ¬ bI false = 0 by decide), okR_some]
    exact ⟨rfl, _, _, _, h1⟩
/-! the functions, as words and what stands behind them -/
theorem e_lock : m_X8_readsLock s = rdW (t1 68) [111, 99, 107, 32] s := rfl
theorem e_spread : m_X8_readsSpread s = rdW (t1 68) [112, 114, 101, 97, 100, 32] s := rfl
theorem e_phantoms : m_X8_readsPhantoms s = rdW (t2 68 68) [104, 97, 110, 116, 111, 109, 115, 32] s := by
  unfold m_X8_readsPhantoms
  simp only [ite_not]
  rfl
theorem e_box : m_X8_readsBox s = rdW tBx [111, 120, 32] s := by
  unfold m_X8_readsBox tBx
  simp only [ite_not]
  rfl
def dW3 (s : Mem) : Res Int32 := vl (pI s 8 16 111) (fun s7 => rdW (t1 78) [111, 119, 110, 32] s7)
theorem e_D : m_X8_readsD s = bindR (m_X8_reads 105 s) (fun v1 s2 => if v1 = 0 then (some (.inl 0, s2)) else (bindR (m_X8_reads 115 s2) (fun v3 s4 => if v3 = 0 then (some (.inl 0, s4)) else (bindR (m_X8_reads 109 s4) (fun v5 s6 => if v5 = 0 then dW3 s6 else rdW (t2 68 68) [105, 115, 115, 32] s6))))) := by
  unfold m_X8_readsD
  simp only [ite_not]
  rfl
theorem e_R : m_X8_readsR s = bindR (m_X8_reads 111 s) (fun v1 s2 => if v1 = 0 then vl (pI s2 8 16 120) (fun s3 => rdW (t1 78) [101, 109, 111, 118, 101, 32] s3) else rdW (t1 78) [119, 32] s2) := rfl
/-- the words of the commands -/
theorem w9 : ∀ w ∈ [[111, 99, 107, 32], [112, 114, 101, 97, 100, 32], [104, 97, 110, 116, 111, 109, 115, 32], [111, 120, 32], [111, 119, 110, 32], [105, 115, 115, 32], [101, 109, 111, 118, 101, 32], [119, 32], [99, 104, 111, 32], [111, 118, 101, 32], [101, 105, 114, 32], [110, 108]], ∀ c ∈ w, c < 1000 ∧ c ≠ 0 := by decide
theorem r_R (hx : HX s0 x) (ho : InOk x) (hi : i + 1 ≤ x.1) (h : RI s0 s (i + 1) (nI 114) a b) (e : cx x i = 114) : okR (m_X8_readsR s) (CQ s0 (cmd x i)) := by
  have hx1 := ho.1
  rw [e_R, cmd_r e, show m_X8_reads 111 s = m_X8_reads (nI 111) s from rfl, r_reads (h.hx hx) ho (by omega) h.1 (by decide) (by decide)]
  by_cases q : cx x (i + 1) = 111
  · have qi := cx_lt (x := x) (i := i + 1) (by omega)
    rw [if_pos q, if_pos q, bR_l, if_neg (show ¬ nI 1 = 0 by decide)]
    exact r_word (n := 0) hx ho (w9 [119, 32] (by decide)) (i := i + 2) qi h.mi (fun s' P hP h' => r_t1 hx ho (by omega) h' (Or.inr rfl) rfl)
  · rw [if_neg q, if_neg q, bR_l, if_pos (show nI 0 = 0 from rfl), okR_vl]
    exact r_word (n := 5) hx ho (w9 [101, 109, 111, 118, 101, 32] (by decide)) (i := i + 1) hi h.ms (fun s' P hP h' => r_t1 hx ho (by omega) h' (Or.inr rfl) rfl)
theorem r_D (hx : HX s0 x) (ho : InOk x) (hi : i + 1 ≤ x.1) (h : RI s0 s (i + 1) (nI 100) a b) (e : cx x i = 100) : okR (m_X8_readsD s) (CQ s0 (cmd x i)) := by
  have hx1 := ho.1
  rw [e_D, cmd_d e, show m_X8_reads 105 s = m_X8_reads (nI 105) s from rfl, r_reads (h.hx hx) ho (by omega) h.1 (by decide) (by decide)]
  by_cases q : cx x (i + 1) = 105
  · have qi := cx_lt (x := x) (i := i + 1) (by omega)
    have h2 := h.mi (j := i + 2)
    rw [if_pos q, if_pos q, bR_l, if_neg (show ¬ nI 1 = 0 by decide), show ∀ u : Mem, m_X8_reads 115 u = m_X8_reads (nI 115) u from fun _ => rfl, r_reads (h2.hx hx) ho (by omega) h2.1 (by decide) (by decide)]
    by_cases r : cx x (i + 2) = 115
    · have ri := cx_lt (x := x) (i := i + 2) (by omega)
      have h3 := h2.mi (j := i + 3)
      rw [if_pos r, if_pos r, bR_l, if_neg (show ¬ nI 1 = 0 by decide), show ∀ u : Mem, m_X8_reads 109 u = m_X8_reads (nI 109) u from fun _ => rfl, r_reads (h3.hx hx) ho (by omega) h3.1 (by decide) (by decide)]
      by_cases t : cx x (i + 3) = 109
      · have ti := cx_lt (x := x) (i := i + 3) (by omega)
        rw [if_pos t, if_pos t, bR_l, if_neg (show ¬ nI 1 = 0 by decide)]
        exact r_word (n := 2) hx ho (w9 [105, 115, 115, 32] (by decide)) (i := i + 4) ti h3.mi (fun s' P hP h' => r_t2 hx ho (by omega) h' (Or.inl rfl) (Or.inl rfl) rfl)
      · rw [if_neg t, if_neg t, bR_l, if_pos (show nI 0 = 0 from rfl)]
        unfold dW3
        rw [okR_vl]
        exact r_word (n := 7) hx ho (w9 [111, 119, 110, 32] (by decide)) (i := i + 3) ri h3.ms (fun s' P hP h' => r_t1 hx ho (by omega) h' (Or.inr rfl) rfl)
    · rw [if_neg r, if_neg r, bR_l, if_pos (show nI 0 = 0 from rfl), okR_some]
      exact ⟨rfl, _, _, _, h2⟩
  · rw [if_neg q, if_neg q, bR_l, if_pos (show nI 0 = 0 from rfl), okR_some]
    exact ⟨rfl, _, _, _, h⟩
theorem e_u : bindR (m_X8_reads 110 s) (fun v27 s28 => if v27 = 0 then (some (.inl 0, s28)) else (bindR (m_X8_reads 108 s28) (fun v29 s30 => if v29 = 0 then (some (.inl 0, s30)) else (bindR (m_X8_readsLock s30) (fun v31 s32 => if v31 = 0 then (some (.inl 0, s32)) else (some (.inl 1, s32))))))) = rdW (fun s30 => bindR (m_X8_readsLock s30) (fun v31 s32 => if v31 = 0 then (some (.inl 0, s32)) else (some (.inl 1, s32)))) [110, 108] s := rfl
theorem r_u (hx : HX s0 x) (ho : InOk x) (hi : i + 1 ≤ x.1) (h : RI s0 s (i + 1) (nI 117) a b) (e : cx x i = 117) : okR (rdW (fun s30 => bindR (m_X8_readsLock s30) (fun v31 s32 => if v31 = 0 then (some (.inl 0, s32)) else (some (.inl 1, s32)))) [110, 108] s) (CQ s0 (cmd x i)) := by
  have hx1 := ho.1
  have hl := lcp_rng x [110, 108] (i + 1) (by decide) hi
  have ha := lcp_app x [111, 99, 107, 32] [110, 108] (i + 1)
  rw [cmd1 (k := 9) (by decide) (by decide) e]
  show okR _ (CQ s0 (if lcp x (i + 1) ([110, 108] ++ [111, 99, 107, 32]) = 6 then fin x 9 (i + 1 + 6) else .inr (i + 1 + lcp x (i + 1) ([110, 108] ++ [111, 99, 107, 32]))))
  refine r_rdW hx ho [110, 108] (w9 [110, 108] (by decide)) hi h (fun q s' h' => fz ?_) (fun q s' h' => ?_)
  · rw [if_pos q] at ha
    have q2 : lcp x (i + 1) [110, 108] = 2 := q
    rw [e_lock, ha]
    have := r_word (n := 9) hx ho (w9 [111, 99, 107, 32] (by decide)) (K := t1 68) (i := i + 1 + 2) (by omega) h' (fun s' P hP h' => r_t1 hx ho (by omega) h' (Or.inl rfl) rfl)
    by_cases y : lcp x (i + 1 + 2) [111, 99, 107, 32] = 4
    · rw [if_pos (show lcp x (i + 1 + 2) [111, 99, 107, 32] = [111, 99, 107, 32].length from y)] at this
      rw [if_pos (show [110, 108].length + lcp x (i + 1 + [110, 108].length) [111, 99, 107, 32] = 6 from by rw [show i + 1 + [110, 108].length = i + 1 + 2 from rfl, y]; rfl)]
      exact this
    · rw [if_neg (show ¬ lcp x (i + 1 + 2) [111, 99, 107, 32] = [111, 99, 107, 32].length from y)] at this
      rw [if_neg (show ¬ [110, 108].length + lcp x (i + 1 + [110, 108].length) [111, 99, 107, 32] = 6 from fun z => y (by have z : 2 + lcp x (i + 1 + 2) [111, 99, 107, 32] = 6 := z; omega)), show i + 1 + ([110, 108].length + lcp x (i + 1 + [110, 108].length) [111, 99, 107, 32]) = i + 1 + 2 + lcp x (i + 1 + 2) [111, 99, 107, 32] from by show i + 1 + (2 + lcp x (i + 1 + 2) [111, 99, 107, 32]) = _; omega]
      exact this
  · rw [if_neg q] at ha
    have := lcp_le x [110, 108] (i + 1)
    have q2 : lcp x (i + 1) [110, 108] ≤ 2 := this
    rw [ha, if_neg (by omega)]
    exact ⟨rfl, _, _, _, h'⟩
theorem e_e : bindR (m_X8_reads 99 s) (fun v63 s64 => if v63 = 0 then (some (.inl 0, s64)) else (bindR (m_X8_reads 104 s64) (fun v65 s66 => if v65 = 0 then (some (.inl 0, s66)) else (bindR (m_X8_reads 111 s66) (fun v67 s68 => if v67 = 0 then (some (.inl 0, s68)) else (bindR (m_X8_reads 32 s68) (fun v69 s70 => if v69 = 0 then (some (.inl 0, s70)) else (bindR (m_X8_readsDigit 0 s70) (fun v71 s72 => if v71 = 0 then (some (.inl 0, s72)) else (bindR (m_X8_reads 32 s72) (fun v73 s74 => if v73 = 0 then (some (.inl 0, s74)) else (bindR (m_X8_readsNumber 1 s74) (fun v75 s76 => if v75 = 0 then (some (.inl 0, s76)) else (some (.inl 1, s76))))))))))))))) = rdW (t2 68 78) [99, 104, 111, 32] s := rfl
theorem e_m : bindR (m_X8_reads 111 s) (fun v49 s50 => if v49 = 0 then (some (.inl 0, s50)) else (bindR (m_X8_reads 118 s50) (fun v51 s52 => if v51 = 0 then (some (.inl 0, s52)) else (bindR (m_X8_reads 101 s52) (fun v53 s54 => if v53 = 0 then (some (.inl 0, s54)) else (bindR (m_X8_reads 32 s54) (fun v55 s56 => if v55 = 0 then (some (.inl 0, s56)) else (bindR (m_X8_readsNumber 0 s56) (fun v57 s58 => if v57 = 0 then (some (.inl 0, s58)) else (bindR (m_X8_reads 32 s58) (fun v59 s60 => if v59 = 0 then (some (.inl 0, s60)) else (bindR (m_X8_readsDigit 1 s60) (fun v61 s62 => if v61 = 0 then (some (.inl 0, s62)) else (some (.inl 1, s62))))))))))))))) = rdW (t2 78 68) [111, 118, 101, 32] s := rfl
theorem e_h : bindR (m_X8_reads 101 s) (fun v35 s36 => if v35 = 0 then (some (.inl 0, s36)) else (bindR (m_X8_reads 105 s36) (fun v37 s38 => if v37 = 0 then (some (.inl 0, s38)) else (bindR (m_X8_reads 114 s38) (fun v39 s40 => if v39 = 0 then (some (.inl 0, s40)) else (bindR (m_X8_reads 32 s40) (fun v41 s42 => if v41 = 0 then (some (.inl 0, s42)) else (bindR (m_X8_readsNumber 0 s42) (fun v43 s44 => if v43 = 0 then (some (.inl 0, s44)) else (bindR (m_X8_reads 32 s44) (fun v45 s46 => if v45 = 0 then (some (.inl 0, s46)) else (bindR (m_X8_readsNumber 1 s46) (fun v47 s48 => if v47 = 0 then (some (.inl 0, s48)) else (some (.inl 1, s48))))))))))))))) = rdW (t2 78 78) [101, 105, 114, 32] s := rfl
theorem r_readsCommand (hx : HX s0 x) (ho : InOk x) (hi : i ≤ x.1) (h : RI s0 s i st a b) : okR (m_X8_readsCommand s) (CQ s0 (cmd x i)) := by
  have hx1 := ho.1
  unfold m_X8_readsCommand
  rw [r_nextChar (h.hx hx) ho (by omega) h.1, bP_some, okR_vl]
  have h1 : RI s0 (pI s 8 16 (nc x i)) i (nc x i) a b := h.ms
  obtain ⟨u, eu⟩ : ∃ u, u = pI s 8 16 (nc x i) := ⟨_, rfl⟩
  rw [← eu] at h1 ⊢
  have rd : ∀ {c : Nat}, c < 1000 → c ≠ 0 → m_X8_reads (nI c) u = if cx x i = c then some (.inl (nI 1), pI u 8 12 (nI (i + 1))) else some (.inl (nI 0), u) := fun hc h0 => r_reads (h1.hx hx) ho (by omega) h1.1 hc h0
  have pos : ∀ {c : Nat}, 1 ≤ c → cx x i = c → i + 1 ≤ x.1 ∧ RI s0 (pI u 8 12 (nI (i + 1))) (i + 1) (nI c) a b := fun hc e => by
    have zi := cx_lt (x := x) (i := i) (by omega)
    have := h1.mi (j := i + 1)
    rw [show nc x i = nI (cx x i) from if_pos zi, e] at this
    exact ⟨zi, this⟩
  rw [show m_X8_reads 114 u = m_X8_reads (nI 114) u from rfl, rd (c := 114) (by decide) (by decide)]
  by_cases e114 : cx x i = 114
  · obtain ⟨p1, p2⟩ := pos (c := 114) (by decide) e114
    rw [if_pos e114, bR_l, if_neg (show ¬ nI 1 = 0 by decide)]
    exact fb (r_R hx ho p1 p2 e114)
  rw [if_neg e114, bR_l, if_pos (show nI 0 = 0 from rfl)]
  rw [show m_X8_reads 112 u = m_X8_reads (nI 112) u from rfl, rd (c := 112) (by decide) (by decide)]
  by_cases e112 : cx x i = 112
  · obtain ⟨p1, p2⟩ := pos (c := 112) (by decide) e112
    rw [if_pos e112, bR_l, if_neg (show ¬ nI 1 = 0 by decide)]
    exact fb (by rw [e_phantoms, cmd1 (k := 1) (by decide) (by decide) e112]; exact r_word (n := 1) hx ho (w9 [104, 97, 110, 116, 111, 109, 115, 32] (by decide)) p1 p2 (fun s' P hP h' => r_t2 hx ho (by omega) h' (Or.inl rfl) (Or.inl rfl) rfl))
  rw [if_neg e112, bR_l, if_pos (show nI 0 = 0 from rfl)]
  rw [show m_X8_reads 100 u = m_X8_reads (nI 100) u from rfl, rd (c := 100) (by decide) (by decide)]
  by_cases e100 : cx x i = 100
  · obtain ⟨p1, p2⟩ := pos (c := 100) (by decide) e100
    rw [if_pos e100, bR_l, if_neg (show ¬ nI 1 = 0 by decide)]
    exact fb (r_D hx ho p1 p2 e100)
  rw [if_neg e100, bR_l, if_pos (show nI 0 = 0 from rfl)]
  rw [show m_X8_reads 101 u = m_X8_reads (nI 101) u from rfl, rd (c := 101) (by decide) (by decide)]
  by_cases e101 : cx x i = 101
  · obtain ⟨p1, p2⟩ := pos (c := 101) (by decide) e101
    rw [if_pos e101, bR_l, if_neg (show ¬ nI 1 = 0 by decide)]
    exact (by rw [e_e, cmd1 (k := 3) (by decide) (by decide) e101]; exact r_word (n := 3) hx ho (w9 [99, 104, 111, 32] (by decide)) p1 p2 (fun s' P hP h' => r_t2 hx ho (by omega) h' (Or.inl rfl) (Or.inr rfl) rfl))
  rw [if_neg e101, bR_l, if_pos (show nI 0 = 0 from rfl)]
  rw [show m_X8_reads 109 u = m_X8_reads (nI 109) u from rfl, rd (c := 109) (by decide) (by decide)]
  by_cases e109 : cx x i = 109
  · obtain ⟨p1, p2⟩ := pos (c := 109) (by decide) e109
    rw [if_pos e109, bR_l, if_neg (show ¬ nI 1 = 0 by decide)]
    exact (by rw [e_m, cmd1 (k := 4) (by decide) (by decide) e109]; exact r_word (n := 4) hx ho (w9 [111, 118, 101, 32] (by decide)) p1 p2 (fun s' P hP h' => r_t2 hx ho (by omega) h' (Or.inr rfl) (Or.inl rfl) rfl))
  rw [if_neg e109, bR_l, if_pos (show nI 0 = 0 from rfl)]
  rw [show m_X8_reads 104 u = m_X8_reads (nI 104) u from rfl, rd (c := 104) (by decide) (by decide)]
  by_cases e104 : cx x i = 104
  · obtain ⟨p1, p2⟩ := pos (c := 104) (by decide) e104
    rw [if_pos e104, bR_l, if_neg (show ¬ nI 1 = 0 by decide)]
    exact (by rw [e_h, cmd1 (k := 6) (by decide) (by decide) e104]; exact r_word (n := 6) hx ho (w9 [101, 105, 114, 32] (by decide)) p1 p2 (fun s' P hP h' => r_t2 hx ho (by omega) h' (Or.inr rfl) (Or.inr rfl) rfl))
  rw [if_neg e104, bR_l, if_pos (show nI 0 = 0 from rfl)]
  rw [show m_X8_reads 108 u = m_X8_reads (nI 108) u from rfl, rd (c := 108) (by decide) (by decide)]
  by_cases e108 : cx x i = 108
  · obtain ⟨p1, p2⟩ := pos (c := 108) (by decide) e108
    rw [if_pos e108, bR_l, if_neg (show ¬ nI 1 = 0 by decide)]
    exact fb (by rw [e_lock, cmd1 (k := 8) (by decide) (by decide) e108]; exact r_word (n := 8) hx ho (w9 [111, 99, 107, 32] (by decide)) p1 p2 (fun s' P hP h' => r_t1 hx ho (by omega) h' (Or.inl rfl) rfl))
  rw [if_neg e108, bR_l, if_pos (show nI 0 = 0 from rfl)]
  rw [show m_X8_reads 117 u = m_X8_reads (nI 117) u from rfl, rd (c := 117) (by decide) (by decide)]
  by_cases e117 : cx x i = 117
  · obtain ⟨p1, p2⟩ := pos (c := 117) (by decide) e117
    rw [if_pos e117, bR_l, if_neg (show ¬ nI 1 = 0 by decide)]
    exact (by rw [e_u]; exact r_u hx ho p1 p2 e117)
  rw [if_neg e117, bR_l, if_pos (show nI 0 = 0 from rfl)]
  rw [show m_X8_reads 98 u = m_X8_reads (nI 98) u from rfl, rd (c := 98) (by decide) (by decide)]
  by_cases e98 : cx x i = 98
  · obtain ⟨p1, p2⟩ := pos (c := 98) (by decide) e98
    rw [if_pos e98, bR_l, if_neg (show ¬ nI 1 = 0 by decide)]
    exact fb (by rw [e_box, cmd1 (k := 10) (by decide) (by decide) e98]; exact r_word (n := 10) hx ho (w9 [111, 120, 32] (by decide)) p1 p2 (fun s' P hP h' => r_tB hx ho (by omega) h'))
  rw [if_neg e98, bR_l, if_pos (show nI 0 = 0 from rfl)]
  rw [show m_X8_reads 115 u = m_X8_reads (nI 115) u from rfl, rd (c := 115) (by decide) (by decide)]
  by_cases e115 : cx x i = 115
  · obtain ⟨p1, p2⟩ := pos (c := 115) (by decide) e115
    rw [if_pos e115, bR_l, if_neg (show ¬ nI 1 = 0 by decide)]
    exact fz (by rw [e_spread, cmd1 (k := 11) (by decide) (by decide) e115]; exact r_word (n := 11) hx ho (w9 [112, 114, 101, 97, 100, 32] (by decide)) p1 p2 (fun s' P hP h' => r_t1 hx ho (by omega) h' (Or.inl rfl) rfl))
  rw [if_neg e115, bR_l, if_pos (show nI 0 = 0 from rfl), okR_some]
  have en : cmd x i = .inr i := cmd_n fun j hj => by
    rcases (show j = 0 ∨ j = 1 ∨ j = 2 ∨ j = 3 ∨ j = 4 ∨ j = 5 ∨ j = 6 ∨ j = 7 ∨ j = 8 ∨ j = 9 ∨ j = 10 ∨ j = 11 by omega) with rfl | rfl | rfl | rfl | rfl | rfl | rfl | rfl | rfl | rfl | rfl | rfl
    · exact e114
    · exact e112
    · exact e100
    · exact e101
    · exact e109
    · exact e114
    · exact e104
    · exact e100
    · exact e108
    · exact e117
    · exact e98
    · exact e115
  rw [en]
  exact ⟨rfl, _, _, _, h1⟩
end
