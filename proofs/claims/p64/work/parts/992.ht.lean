/-! ===== HeirTables.<init> ===== -/
theorem va_Dapp {A : Nat → Prop} {ws nw : va_W} {n : Nat} (hD : va_D A ws) (hlt : ∀ (k : Nat) (x : Nat × va_E), ws[k]? = some x → x.1 < n) (hn : ∀ (k : Nat) (x : Nat × va_E), nw[k]? = some x → x.1 = n + k) (hA : ∀ q, n ≤ q → A q) : va_D A (ws ++ nw) := by
  have key : ∀ (k : Nat) (x : Nat × va_E), (ws ++ nw)[k]? = some x → (k < ws.length ∧ ws[k]? = some x) ∨ (ws.length ≤ k ∧ x.1 = n + (k - ws.length)) := by
    intro k x h
    by_cases hk : k < ws.length
    · rw [List.getElem?_append_left hk] at h
      exact Or.inl ⟨hk, h⟩
    · rw [List.getElem?_append_right (by omega)] at h
      exact Or.inr ⟨by omega, hn _ x h⟩
  refine ⟨fun i j p q hp hq h => ?_, fun k x h => ?_⟩
  · rcases key i p hp with ⟨a1, a2⟩ | ⟨a1, a2⟩ <;> rcases key j q hq with ⟨b1, b2⟩ | ⟨b1, b2⟩
    · exact hD.1 i j p q a2 b2 h
    · have := hlt i p a2
      omega
    · have := hlt j q b2
      omega
    · omega
  · rcases key k x h with ⟨a1, a2⟩ | ⟨a1, a2⟩
    · exact hD.2 k x a2
    · exact hA _ (by omega)
section
variable {X : Cx} {V : Vx} {A : Nat → Prop} {R : Room} {Q : State → Prop} {pc : Nat} {lv : List (Nat × Value)} {rest st : List Value} {ws : va_W} {cells slots : Nat} {own : String} {cc : ByteArray} {nL : Nat}
theorem nx_tab (hC : Cok X V A own cc nL) (hX : XE V A (xs X) (xs X).heap) {index : Nat} (hl : Cond.classLink own index "[[I" ∈ gw) (hc : cells + 6 ≤ R.cells) (hs : slots + 125 ≤ R.slots) (hdg : decode cc pc = .ok (.multianewarray index 2, 4))
    (k : ∀ q : Nat, NX X V A R nL Q (pc + 4) lv (.ref q :: rest) (ws ++ [(q, .inl (V.2.1 7, (5, .inr (.inr (.inr (.inr (fun j => some (q + 1 + j)))))))), (q + 1 + 0, .inl (V.2.1 0, (24, .inl (fun _ => 0)))), (q + 1 + 1, .inl (V.2.1 0, (24, .inl (fun _ => 0)))), (q + 1 + 2, .inl (V.2.1 0, (24, .inl (fun _ => 0)))), (q + 1 + 3, .inl (V.2.1 0, (24, .inl (fun _ => 0)))), (q + 1 + 4, .inl (V.2.1 0, (24, .inl (fun _ => 0))))]) (cells + 6) (slots + 125)) : NX X V A R nL Q pc lv (.int 24 :: .int 5 :: rest) ws cells slots := by
  intro H locs ls h1 h2 h3 h4
  obtain ⟨kA, g1, g2⟩ := hX.2.2.2
  obtain ⟨-, kI, g3, c0, g4⟩ := (hC.2.2.2.2.2.1.2 0 (V.2.1 0, .int) rfl).1 0 (fun _ => .null)
  have hfA : (xs X).vm.findClass "[[I" = some (V.2.1 7) := (hC.2.2.2.2.2.1.2 7 (V.2.1 7, .array .int) rfl).2
  refine mr_W hC.1 hC.2.1 hC.2.2.2.1 (lx_words hC hl) hfA g1 g2 g3 g4 rfl hdg rfl hc hs (fun H1 z o1 e1 r1 => ?_)
  have hk : ∀ (k : Nat) (x : Nat × va_E), ws[k]? = some x → H1[x.1]? = H[x.1]? := fun k x hx => o1 x.1 ((h1 k x hx).lt)
  refine k H.size H1 _ ls ((h1.kept hk).app (fun k x hx => ?_)) (va_Dapp h2 (fun k x hx => (h1 k x hx).lt) (fun k x hx => ?_) (fun q hq => hC.2.2.2.2.2.2.1 q (Nat.le_trans h3.1 hq))) ⟨Nat.le_trans h3.1 (by omega), fun x q1 q2 => (o1 x (Nat.lt_of_lt_of_le q1 h3.1)).trans (h3.2.1 x q1 q2), fun l hl => ?_⟩ h4
  · have hz : k < 6 := (List.getElem?_eq_some_iff.mp hx).1
    rcases (show k = 0 ∨ k = 1 ∨ k = 2 ∨ k = 3 ∨ k = 4 ∨ k = 5 by omega) with rfl | rfl | rfl | rfl | rfl | rfl <;> cases hx
    · show H1[H.size]? = some (vp_cell _ _)
      rw [vp_cell_q, e1]
      unfold mr_o
      rw [arrV_cg (fun j hj => by rw [if_pos hj])]
      rfl
    · exact r1 0 (by decide)
    · exact r1 1 (by decide)
    · exact r1 2 (by decide)
    · exact r1 3 (by decide)
    · exact r1 4 (by decide)
  · have hz : k < 6 := (List.getElem?_eq_some_iff.mp hx).1
    rcases (show k = 0 ∨ k = 1 ∨ k = 2 ∨ k = 3 ∨ k = 4 ∨ k = 5 by omega) with rfl | rfl | rfl | rfl | rfl | rfl <;> cases hx <;> rfl
  · rcases List.mem_append.mp hl with h | h
    · exact h3.2.2 l h
    · obtain ⟨j, -, rfl⟩ := List.mem_map.mp h
      exact hC.2.2.2.2.2.2.1 _ h3.1
end
theorem wd184 : Cond.methodLink RX2 3 Lib.objectInit ∈ gw := gwt1 (List.mem_of_getElem? (i := 164) rfl) (by decide +kernel)
theorem wd185 : Cond.classLink RX2 11 "[[I" ∈ gw := gwt1 (List.mem_of_getElem? (i := 165) rfl) (by decide +kernel)
theorem nc_X2 (l : Launch) : NC l yX2_init (.code yX2_init cX2_init 1 none) 1 12 6 125 2 [.null] (fun V b w => ∃ (h : Nat) (i : Nat → Nat), w = htW V b h i) := by
  refine nc_of (by decide) rfl (by decide) (fun X V A b hxl hC hX hi hr => ?_)
  refine nx_aload_n hC dX2_init_0 rfl 0 rfl ?_
  refine nx_init hC wd184 (by decide) (by decide) dX2_init_1 ?_
  refine nx_aload_n hC dX2_init_4 rfl 0 rfl ?_
  refine nx_iconst (v := 5) hC dX2_init_5 (by decide) ?_
  refine nx_bipush (v := 24) hC dX2_init_6 (by decide) ?_
  refine nx_tab hC hX wd185 (by decide) (by decide) dX2_init_8 (fun h => ?_)
  refine nx_putF (v := .ref h) (ws := [(b, .inr (2, [.null])), (h, .inl (V.2.1 7, (5, .inr (.inr (.inr (.inr (fun j => some (h + 1 + j)))))))), (h + 1 + 0, .inl (V.2.1 0, (24, .inl (fun _ => 0)))), (h + 1 + 1, .inl (V.2.1 0, (24, .inl (fun _ => 0)))), (h + 1 + 2, .inl (V.2.1 0, (24, .inl (fun _ => 0)))), (h + 1 + 3, .inl (V.2.1 0, (24, .inl (fun _ => 0)))), (h + 1 + 4, .inl (V.2.1 0, (24, .inl (fun _ => 0))))]) hC hi inX2 tyX2 tyX2_ok nmX2 0 rfl rfl 0 (by decide) wd187 rfl rfl rfl rfl (Nat.le_of_ble_eq_true rfl) dX2_init_12 ?_
  exact nx_ret (ws := [(b, .inr (2, [.ref h])), (h, .inl (V.2.1 7, (5, .inr (.inr (.inr (.inr (fun j => some (h + 1 + j)))))))), (h + 1 + 0, .inl (V.2.1 0, (24, .inl (fun _ => 0)))), (h + 1 + 1, .inl (V.2.1 0, (24, .inl (fun _ => 0)))), (h + 1 + 2, .inl (V.2.1 0, (24, .inl (fun _ => 0)))), (h + 1 + 3, .inl (V.2.1 0, (24, .inl (fun _ => 0)))), (h + 1 + 4, .inl (V.2.1 0, (24, .inl (fun _ => 0))))]) hC hr ⟨h, fun j => h + 1 + j, rfl⟩ (by decide) (by decide) dX2_init_15
