/-! ===== the first memory: what the constructors made, as the logical memory ===== -/
theorem ex_map : ∀ (cs vs : List Nat), cs.Nodup → cs.length = vs.length → ∃ f : Nat → Nat, cs.map f = vs
  | [], [], _, _ => ⟨fun _ => 0, rfl⟩
  | [], _ :: _, _, h => by simp at h
  | _ :: _, [], _, h => by simp at h
  | c :: cs, v :: vs, hn, hl => by
    obtain ⟨f, hf⟩ := ex_map cs vs (List.nodup_cons.mp hn).2 (by simpa using hl)
    refine ⟨fun q => if q = c then v else f q, ?_⟩
    rw [List.map_cons, if_pos rfl]
    refine congrArg (List.cons v) (Eq.trans (List.map_congr_left (fun q hq => if_neg (fun h => (List.nodup_cons.mp hn).1 ?_))) hf)
    rw [← h]
    exact hq
theorem ini0 {c n a : Nat} (h1 : ¬ (268 ≤ a ∧ a ≤ 278)) (h2 : a ≠ 0) (h3 : a ≠ 8) (k : Nat) : gI (ini c n) a k = 0 := by
  show (if 268 ≤ a ∧ a ≤ 278 then (-1 : Int32) else if (a = 0 ∧ (k = 8 ∨ k = 9)) ∨ (a = 8 ∧ (k = 13 ∨ k = 14)) then -1 else 0) = 0
  rw [if_neg h1, if_neg (fun h => by rcases h with h | h; exact h2 h.1; exact h3 h.1)]
theorem ini1 {c n a : Nat} (h1 : 268 ≤ a ∧ a ≤ 278) (k : Nat) : gI (ini c n) a k = -1 := by
  show (if 268 ≤ a ∧ a ≤ 278 then (-1 : Int32) else if (a = 0 ∧ (k = 8 ∨ k = 9)) ∨ (a = 8 ∧ (k = 13 ∨ k = 14)) then -1 else 0) = -1
  rw [if_pos h1]
theorem fv0 {ad : Nat → Nat} {σ : Mem} {c x k : Nat} {v : Int32} (h : fk x k = 0) (hv : gI σ c k = v) : Value.int v = fv ad σ c x k := by
  unfold fv
  rw [if_pos h, hv]
theorem fv1 {ad : Nat → Nat} {σ : Mem} {c x k : Nat} {v : Int64} (h : fk x k = 1) (hv : gJ σ c k = v) : Value.long v = fv ad σ c x k := by
  unfold fv
  rw [if_neg (by rw [h]; decide), if_pos h, hv]
theorem fv2 {ad : Nat → Nat} {σ : Mem} {c x k a : Nat} (h : fk x k = 2) (hv : ad (srf c x k) = a) : Value.ref a = fv ad σ c x k := by
  unfold fv
  rw [if_neg (by rw [h]; decide), if_neg (by rw [h]; decide), hv]
theorem srf_n {c x k : Nat} (h : x ≠ 6) : srf c x k = c + 64 * (k + 1) := if_neg h
section
variable {V : Vx} {ad hid : Nat → Nat} {c n : Nat} {H : Heap}
theorem in_o {a x N : Nat} {C : String} {T : u_T} {fs : List Value} {b : Nat} (hc : clv[x]? = some (C, T, N)) (e : ad a = b) (h : va_at V.1 clv (b, .inr (x, fs)) H) (hf : ∀ k, k < N → vp_V fs k = fv ad (ini c n) a x k) : cellAt (V.1, V.2.1, ad) hid (ini c n) H (a, 1, x, N) := by
  obtain ⟨r, hr, hOB⟩ := h
  have hq : r = (C, T, N) := Option.some.inj (Eq.trans (Eq.symm hr) hc)
  subst hq
  refine ca1 ?_
  show t_OB (ad a) _ _ _ _ _
  rw [e]
  exact hOB.to hf
theorem in_a {a t N b : Nat} {v : Int32} (e : ad a = b) (h : va_at V.1 clv (b, .inl (V.2.1 t, (N, .inl (fun _ => v)))) H) (hg : ∀ j, gI (ini c n) a j = v) : cellAt (V.1, V.2.1, ad) hid (ini c n) H (a, 2, t, N) := by
  refine ca2 ?_
  show H[ad a]? = _
  rw [e, show (fun j => Value.int (gI (ini c n) a j)) = (fun _ => Value.int v) from funext fun j => by rw [hg]]
  exact h
/-- a theatre -/
theorem in_th {t x y0 y1 y2 y3 y4 y5 y6 y7 : Nat} (ht : isTh t) (h : va_P V.1 clv (thW V x y0 y1 y2 y3 y4 y5 y6 y7) H) (e : ad t = x) (e0 : ad (t + 64) = y0) (e1 : ad (t + 128) = y1) (e2 : ad (t + 192) = y2) (e3 : ad (t + 256) = y3) (e4 : ad (t + 384) = y4) (e5 : ad (t + 448) = y5) (e6 : ad (t + 512) = y6) (e7 : ad (t + 576) = y7) :
    ∀ q ∈ [(t, 1, 5, 15), (t + 64, 2, 0, 8), (t + 128, 2, 0, 8), (t + 192, 2, 1, 8), (t + 256, 2, 0, 8), (t + 384, 2, 0, 24), (t + 448, 2, 0, 24), (t + 512, 2, 0, 24), (t + 576, 2, 0, 24)], cellAt (V.1, V.2.1, ad) hid (ini c n) H q := by
  obtain ⟨t1, t2⟩ := ht
  refine List.forall_mem_cons.mpr ⟨in_o (x := 5) rfl e (h 0 _ rfl) (fun k hk => ?_), List.forall_mem_cons.mpr ⟨in_a e0 (h 1 _ rfl) (fun j => ini0 (by omega) (by omega) (by omega) j), List.forall_mem_cons.mpr ⟨in_a e1 (h 2 _ rfl) (fun j => ini0 (by omega) (by omega) (by omega) j), List.forall_mem_cons.mpr ⟨in_a e2 (h 3 _ rfl) (fun j => ini0 (by omega) (by omega) (by omega) j), List.forall_mem_cons.mpr ⟨in_a e3 (h 4 _ rfl) (fun j => ini1 (by omega) j), List.forall_mem_cons.mpr ⟨in_a e4 (h 5 _ rfl) (fun j => ini0 (by omega) (by omega) (by omega) j), List.forall_mem_cons.mpr ⟨in_a e5 (h 6 _ rfl) (fun j => ini0 (by omega) (by omega) (by omega) j), List.forall_mem_cons.mpr ⟨in_a e6 (h 7 _ rfl) (fun j => ini0 (by omega) (by omega) (by omega) j), List.forall_mem_cons.mpr ⟨in_a e7 (h 8 _ rfl) (fun j => ini0 (by omega) (by omega) (by omega) j), fun _ h => absurd h List.not_mem_nil⟩⟩⟩⟩⟩⟩⟩⟩⟩
  rcases (show k = 0 ∨ k = 1 ∨ k = 2 ∨ k = 3 ∨ k = 4 ∨ k = 5 ∨ k = 6 ∨ k = 7 ∨ k = 8 ∨ k = 9 ∨ k = 10 ∨ k = 11 ∨ k = 12 ∨ k = 13 ∨ k = 14 by omega) with rfl | rfl | rfl | rfl | rfl | rfl | rfl | rfl | rfl | rfl | rfl | rfl | rfl | rfl | rfl
  · exact fv2 rfl (by rw [srf_n (by decide)]; exact e0)
  · exact fv2 rfl (by rw [srf_n (by decide)]; exact e1)
  · exact fv2 rfl (by rw [srf_n (by decide)]; exact e2)
  · exact fv2 rfl (by rw [srf_n (by decide)]; exact e3)
  · exact fv0 rfl (ini0 (by omega) (by omega) (by omega) _)
  · exact fv2 rfl (by rw [srf_n (by decide)]; exact e4)
  · exact fv2 rfl (by rw [srf_n (by decide)]; exact e5)
  · exact fv2 rfl (by rw [srf_n (by decide)]; exact e6)
  · exact fv2 rfl (by rw [srf_n (by decide)]; exact e7)
  · exact fv0 rfl (ini0 (by omega) (by omega) (by omega) _)
  · exact fv0 rfl (ini0 (by omega) (by omega) (by omega) _)
  · exact fv0 rfl (ini0 (by omega) (by omega) (by omega) _)
  · exact fv0 rfl (ini0 (by omega) (by omega) (by omega) _)
  · exact fv1 rfl rfl
  · exact fv1 rfl rfl
end
