/-! ===== the first memory ===== -/
set_option maxHeartbeats 8000000 in
set_option maxRecDepth 100000 in
theorem lo_rep {V : Vx} {A : Nat → Prop} {H : Heap} {c n b : Nat} {d : Nat} {adK : Nat → Nat} {x : Nat} {e0 : Nat} {e1 : Nat} {e2 : Nat} {e3 : Nat} {e4 : Nat} {e5 : Nat} {e6 : Nat} {r : Nat} {t : Nat → Nat} {a : Nat → Nat → Nat} {y0 : Nat} {y1 : Nat} {y2 : Nat} {y3 : Nat} {y4 : Nat} {y5 : Nat} {y6 : Nat} {y7 : Nat} {z : Nat} {h : Nat} {i : Nat → Nat} {p0 : Nat} {p1 : Nat} {p2 : Nat} {u0 : Nat} {u1 : Nat} (hP : va_P V.1 clv (loE V x e0 e1 e2 e3 e4 e5 e6 r t a y0 y1 y2 y3 y4 y5 y6 y7 z h i p0 p1 p2 u0 u1) H) (hD : va_D A (loE V x e0 e1 e2 e3 e4 e5 e6 r t a y0 y1 y2 y3 y4 y5 y6 y7 z h i p0 p1 p2 u0 u1)) : ∃ ad hid : Nat → Nat, Rep (V.1, V.2.1, ad) hid A (ini c n) H ∧ ad 0 = x ∧ ad 2000 = b ∧ ad 2001 = d ∧ ∀ i, i < 54 → ad (3000 + i) = adK i := by
  obtain ⟨f, hf⟩ := ex_map cdL ((loE V x e0 e1 e2 e3 e4 e5 e6 r t a y0 y1 y2 y3 y4 y5 y6 y7 z h i p0 p1 p2 u0 u1).map (fun q => q.1)) cdL_nd rfl
  have had : cdL.map (fun q => if 3000 ≤ q ∧ q < 3054 then adK (q - 3000) else if q = 2000 then b else if q = 2001 then d else f q) = (loE V x e0 e1 e2 e3 e4 e5 e6 r t a y0 y1 y2 y3 y4 y5 y6 y7 z h i p0 p1 p2 u0 u1).map (fun q => q.1) := by
    rw [← hf]
    exact List.map_congr_left (fun q hq => by
      obtain ⟨h1, h2, h3⟩ := cdL_out q hq
      rw [if_neg h1, if_neg h2, if_neg h3])
  generalize hg : (fun q => if 3000 ≤ q ∧ q < 3054 then adK (q - 3000) else if q = 2000 then b else if q = 2001 then d else f q) = ad at had
  have key : ∀ q ∈ cdL, ∃ (k : Nat) (y : Nat × va_E), cdL[k]? = some q ∧ (loE V x e0 e1 e2 e3 e4 e5 e6 r t a y0 y1 y2 y3 y4 y5 y6 y7 z h i p0 p1 p2 u0 u1)[k]? = some y ∧ y.1 = ad q := by
    intro q hq
    obtain ⟨k, hk⟩ := List.getElem?_of_mem hq
    have h1 : (cdL.map ad)[k]? = some (ad q) := by rw [List.getElem?_map, hk]; rfl
    rw [had, List.getElem?_map] at h1
    cases hy : (loE V x e0 e1 e2 e3 e4 e5 e6 r t a y0 y1 y2 y3 y4 y5 y6 y7 z h i p0 p1 p2 u0 u1)[k]? with
    | none => rw [hy] at h1; cases h1
    | some y => rw [hy] at h1; exact ⟨k, y, hk, hy, Option.some.inj h1⟩
  have inj : ∀ q ∈ cdL, ∀ q' ∈ cdL, ad q = ad q' → q = q' := by
    intro q hq q' hq' h
    obtain ⟨k, y, h1, h2, h3⟩ := key q hq
    obtain ⟨k', y', h1', h2', h3'⟩ := key q' hq'
    have hkk := hD.1 k k' y y' h2 h2' (by rw [h3, h3']; exact h)
    subst hkk
    exact Option.some.inj (Eq.trans (Eq.symm h1) h1')
  have inA : ∀ q ∈ cdL, A (ad q) := by
    intro q hq
    obtain ⟨k, y, h1, h2, h3⟩ := key q hq
    rw [← h3]
    exact hD.2 k y h2
  have h46 : 4006 ∈ cdL := by decide +kernel
  have h47 : 4007 ∈ cdL := by decide +kernel
  refine ⟨ad, fun q => if q = 6 then ad 4006 else ad 4007, ⟨lo_cells hP (had.trans (lo_vals V x e0 e1 e2 e3 e4 e5 e6 r t a y0 y1 y2 y3 y4 y5 y6 y7 z h i p0 p1 p2 u0 u1)) rfl rfl, fun e he => inA _ (cdL_lay e he), fun e he e' he' h => inj _ (cdL_lay e he) _ (cdL_lay e' he') h, fun o' ho' => ?_, ?_⟩, ?_⟩
  · have hno : ∀ e ∈ layL, e.1 ≠ 4006 ∧ e.1 ≠ 4007 := by decide +kernel
    rcases ho' with rfl | rfl
    · exact ⟨inA _ h46, fun e he h => (hno e he).1 (inj _ (cdL_lay e he) _ h46 h)⟩
    · exact ⟨inA _ h47, fun e he h => (hno e he).2 (inj _ (cdL_lay e he) _ h47 h)⟩
  · intro h
    exact absurd (inj _ h46 _ h47 h) (by decide)
  · have hv := had.trans (lo_vals V x e0 e1 e2 e3 e4 e5 e6 r t a y0 y1 y2 y3 y4 y5 y6 y7 z h i p0 p1 p2 u0 u1)
    simp only [cdL, List.map_cons, List.map_nil, List.cons.injEq, and_true] at hv
    obtain ⟨m0, m1, m65, m12, m76, m140, m204, m268, m396, m460, m524, m588, m13, m77, m141, m205, m269, m397, m461, m525, m589, m14, m78, m142, m206, m270, m398, m462, m526, m590, m15, m79, m143, m207, m271, m399, m463, m527, m591, m16, m80, m144, m208, m272, m400, m464, m528, m592, m17, m81, m145, m209, m273, m401, m465, m529, m593, m18, m82, m146, m210, m274, m402, m466, m530, m594, m19, m83, m147, m211, m275, m403, m467, m531, m595, m20, m84, m148, m212, m276, m404, m468, m532, m596, m21, m85, m149, m213, m277, m405, m469, m533, m597, m22, m86, m150, m214, m278, m406, m470, m534, m598, m3, m67, m4, m68, m644, m708, m772, m836, m900, m5, m69, m133, m197, m6, m4006, m7, m4007⟩ := hv
    refine ⟨m0, ?_, ?_, fun i hi => ?_⟩
    · rw [← hg]
      show (if 3000 ≤ 2000 ∧ 2000 < 3054 then adK (2000 - 3000) else if 2000 = 2000 then b else if 2000 = 2001 then d else f 2000) = b
      rw [if_neg (by decide), if_pos rfl]
    · rw [← hg]
      show (if 3000 ≤ 2001 ∧ 2001 < 3054 then adK (2001 - 3000) else if 2001 = 2000 then b else if 2001 = 2001 then d else f 2001) = d
      rw [if_neg (by decide), if_neg (by decide), if_pos rfl]
    · rw [← hg]
      show (if 3000 ≤ 3000 + i ∧ 3000 + i < 3054 then adK (3000 + i - 3000) else if 3000 + i = 2000 then b else if 3000 + i = 2001 then d else f (3000 + i)) = adK i
      rw [if_pos (by omega), Nat.add_sub_cancel_left]
