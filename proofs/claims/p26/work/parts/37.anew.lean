/-! a new array of chains -/
section ANQ
variable {G : ev_G} {l : Launch} {M : ev_M} {J : ev_K} {pc k n : Nat} {L : List (Option Value)} {st : List Value} {a : ev_H}
theorem e_anewq {idx z N : Nat} {i : Int32} (hw : Cond.classLink M.1.cls idx RX0 ∈ ev_ws) (hi : i.toInt = (N : Int)) (hN : N ≤ 1000) (hz : a.2 = some z) (hd : decode M.2.1 pc = .ok (.anewarray idx, 3)) (h : ev_V G l M J (pc + 3) L (.ref z :: st) (ev_new a z (.inl (G.2.1 4, N, .inr (.inr (.inr (.inr (fun _ => none))))))) k n) : ev_V G l M J pc L (.int i :: st) a (k + 1) (n + N) := by
  intro p e R s d0 m args below meth c C9 hD H locs cells slots ls hR hS hc hs hl
  obtain ⟨hx, hb, hml, hown, hts, hret, hlk, hK, hE, hini, hhh, ⟨hr1, hr2, hr3, hr4⟩, hfl⟩ := id C9
  have hsz := hR.2.1 z hz
  subst hsz
  have hNat : i.toNatClampNeg = N := show i.toInt.toNat = N by omega
  subst hNat
  refine W.anew hx hb hown (hts _ hw) (va_AO.use hE.2.1.2.1) rfl hd rfl (fun q => by have := ev_lt32.mp q; have h2 : (0 : Int32).toInt = 0 := rfl; omega) (by omega) (by omega) (by omega) fun cA kA comp f1 f2 f3 f4 => ?_
  have hcc : cA = G.2.1 4 := by
    have h1 := (hK.2 4 _ rfl).2
    obtain ⟨_, _, _, _, _, h4⟩ := h1
    exact Option.some.inj (f1.symm.trans h4)
  subst hcc
  generalize hH1 : H.push ({ cls := G.2.1 4, slots := Array.replicate i.toNatClampNeg .null, vm := .none } : Cell) = H1
  have z1 : H1.size = H.size + 1 := by rw [← hH1, Array.size_push]
  have e1 : H1[H.size]? = some (arrV (G.2.1 4) i.toNatClampNeg (fun _ => .null)) := by rw [← hH1, Array.getElem?_push_size, ← arrV_new]
  have o1 : ∀ q : Nat, q < H.size → H1[q]? = H[q]? := fun q hq => by rw [← hH1, Array.getElem?_push, if_neg (Nat.ne_of_lt hq)]
  refine h p e R s d0 m args below meth c C9 hD H1 locs (cells + 1) (slots + i.toNatClampNeg) ls (hR.new ?_ z1 o1) (ev_S_new hS z1 o1) (by omega) (by omega) hl
  show H1[H.size]? = some (vp_cell _ _)
  rw [vp_cell_q]
  exact e1
theorem pk_nQ {c N idx : Nat} {es : List va_E} {h : ev_H} {i : Int32} (hw : Cond.classLink M.1.cls idx RX0 ∈ ev_ws) (hi : i.toInt = (N : Int)) (hN : N ≤ 1000) (hd : decode M.2.1 pc = .ok (.anewarray idx, 3)) (h0 : ev_V G l M J (pc + 3) L (.ref (c + es.length) :: st) (pk c (es ++ [.inl (G.2.1 4, N, .inr (.inr (.inr (.inr (fun _ => none)))))]) h) k n) : ev_V G l M J pc L (.int i :: st) (pk c es h) (k + 1) (n + N) :=
  e_anewq hw hi hN rfl hd (by rw [pk_new c es h _ rfl]; exact h0)
theorem e_aastq {q v N : Nat} {f : Nat → Option Nat} {vs : List Value} {i : Int32} (ha : a.1 q = some (.inl (G.2.1 4, N, .inr (.inr (.inr (.inr f)))))) (hv : a.1 v = some (.inr (0, vs))) (h0 : 0 ≤ i.toInt) (h1 : i.toInt < (N : Int)) (hd : decode M.2.1 pc = .ok (.aastore, 1)) (h : ev_V G l M J (pc + 1) L st (ev_put a q (.inl (G.2.1 4, N, .inr (.inr (.inr (.inr (ev_u f i.toInt.toNat (some v)))))))) k n) : ev_V G l M J pc L (.ref v :: .int i :: .ref q :: st) a k n := by
  intro p e R s d0 m args below meth c C9 hD H locs cells slots ls hR hS hc hs hl
  obtain ⟨hx, hb, hml, hown, hts, hret, hlk, hK, hE, hini, hhh, ⟨hr1, hr2, hr3, hr4⟩, hfl⟩ := id C9
  have hin := ev_in h0 h1
  have hlt : i.toNatClampNeg < N := Nat.not_le.mp fun q => hin (Or.inr q)
  obtain ⟨r', hr', cellV, g1, g2, g3, -⟩ := ev_one hR hv 0 _ rfl
  have hcls := (hK.1 0 (RX0, TX0, 14) rfl).2
  obtain ⟨kA, comp, k1, k2, k3, -⟩ := (hK.2 4 _ rfl).2
  have hcomp : comp = G.1.1 0 := Option.some.inj (k3.symm.trans hcls.1)
  subst hcomp
  obtain ⟨kC, hkC, -⟩ := hcls.2
  refine W.aast hx hb (ev_one hR ha 0 _ rfl) (fun q h => by cases h) (fun h => by cases h) k1 k2 rfl hkC ⟨fun q => hin (Or.inl q), by show _ < (arrV _ _ _).slots.size; rw [arrV_size]; exact hlt⟩ g1 (fun q h => by rw [g3] at h; cases h) (by rw [g2]; exact hkC) (by rw [g2]; exact va_assign hcls) rfl rfl hd fun H1 e1 z oq => ?_
  refine h p e R s d0 m args below meth c C9 hD H1 _ cells slots ls (hR.put ha ?_ z oq) (ev_S_put hS hR ha z oq) hc hs hl
  show H1[q]? = some (vp_cell _ _)
  rw [e1]
  rw [vp_cell_q, vp_cell_q, arrV_store]
  congr 2
  funext x
  by_cases hq : x = i.toNatClampNeg
  · subst hq
    have hq3 : i.toNatClampNeg = i.toInt.toNat := rfl
    simp [updV, ev_u, va_rf]
  · have hq2 : ¬ x = i.toInt.toNat := hq
    simp [updV, ev_u, hq, hq2]
end ANQ
