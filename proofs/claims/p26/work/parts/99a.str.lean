/-! rows of the law -/
def yLaw : MethodName := ⟨RL, "law", "([I)Z"⟩
abbrev mL_law : ev_M := (yLaw, cL_law, 28, (some .boolean))
section STR
variable {G : ev_G} {l : Launch} {M : ev_M} {J : ev_K} {pc k n idx np dY mcY msY : Nat} {L : List (Option Value)} {st rest as : List Value} {a : ev_H} {b u r q8 : Nat} {K : KPT} {S S' : SS} {A : Nat → Nat} {σ : CS} {nI : Nat} {mI : Nat → TI} {g : Nat → Option Nat} {val : Int32} {Y : ev_M} {hh : List (Nat × Nat × Nat × Nat)}
/-- a helper is called -/
theorem st_call (h : ST G b u r q8 K S A σ nI mI g a) (hq8 : q8 ≠ b + 36) (hub : ¬ (b ≤ u ∧ u < b + 157)) (hM : ev_Ht G l Y hh dY mcY msY as (sy G b S (a.1, none)) (fun v c => v = some (.int val) ∧ c = sy G b S' (a.1, none))) (hy : ev_wSH Y hh np) (hw : Cond.methodLink M.1.cls idx Y.1 ∈ ev_ws) (hd : decode M.2.1 pc = .ok (.invokestatic idx, 3)) (hst : st = as.reverse ++ rest) (hn : as.length = np) (hcat : (rest.map fun v => v.category).sum ≤ 8) (hdp : dY + 1 ≤ J.2.2.1) (kk : ∀ (a2 : ev_H) (z2 : Nat), ST G b u r q8 K S' A σ nI mI g a2 → a2.2 = some z2 → ev_V G l M J (pc + 3) L (.int val :: rest) a2 k n) : ev_V G l M J pc L st a (k + mcY) (n + msY) := by
  refine e_forget (f := a.1) (z := a.2) ?_
  refine ev_as (h.size none).eq ?_
  refine e_invSH hM hy hw hd hst hn hcat hdp ?_
  rintro v c ⟨rfl, e⟩
  rw [e]
  refine e_size (f := (sy G b S' (a.1, none)).1) fun z2 _ => ?_
  exact kk _ z2 (h.cls hq8 hub S' (some z2)) rfl
/-- a method of the class is called -/
theorem st_cls (h : ST G b u r q8 K S A σ nI mI g a) (hq8 : q8 ≠ b + 36) (hub : ¬ (b ≤ u ∧ u < b + 157)) (hM : ev_Ct G l Y dY mcY msY (.ref b :: as) (sy G b S (a.1, none)) (fun v c => v = some (.int val) ∧ c = sy G b S' (a.1, none)) (fun _ _ => False)) (hy : ev_wV Y np) (hw : Cond.methodLink M.1.cls idx Y.1 ∈ ev_ws) (hcls : Y.1.cls = RX6) (hd : decode M.2.1 pc = .ok (.invokevirtual idx, 3)) (hst : st = as.reverse ++ .ref b :: rest) (hn : as.length = np) (hcat : (rest.map fun v => v.category).sum ≤ 8) (hdp : dY + 1 ≤ J.2.2.1) (kk : ∀ (a2 : ev_H) (z2 : Nat), ST G b u r q8 K S' A σ nI mI g a2 → a2.2 = some z2 → ev_V G l M J (pc + 3) L (.int val :: rest) a2 k n) : ev_V G l M J pc L st a (k + mcY) (n + msY) := by
  refine e_forget (f := a.1) (z := a.2) ?_
  refine ev_as (h.size none).eq ?_
  refine e_invV (T := TX6) (N := 7) (ci := 6) hM hy hw (sy_at G b S (a.1, none) 0 (by decide)) (by rw [hcls]; rfl) hd hst hn hcat hdp ?_
  rintro v c ⟨rfl, e⟩
  rw [e]
  refine e_size (f := (sy G b S' (a.1, none)).1) fun z2 _ => ?_
  exact kk _ z2 (h.cls hq8 hub S' (some z2)) rfl
/-- agrees -/
theorem st_agr (h : ST G b u r q8 K S A σ nI mI g a) (hq8 : q8 ≠ b + 36) (hub : ¬ (b ≤ u ∧ u < b + 157)) (hl0 : l.stackTraces = false) {A0 : Nat → Nat} {n0 : Nat} {m0 : Nat → TI} {T : Int} (hC : LC G a A0 (S.2.2.2 0) n0 m0) (hI : IV T (S.2.2.2 0) n0 m0) (hw : Cond.methodLink M.1.cls idx mL_agrees.1 ∈ ev_ws) (hd : decode M.2.1 pc = .ok (.invokestatic idx, 3)) (hcat : (rest.map fun v => v.category).sum ≤ 8) (hdp : 14 ≤ J.2.2.1) (kk : ∀ (a2 : ev_H) (z2 : Nat), ST G b u r q8 K S A σ nI mI g a2 → a2.2 = some z2 → ev_V G l M J (pc + 3) L (.int 1 :: rest) a2 k n) : ev_V G l M J pc L (.ref (A0 0) :: .ref b :: rest) a (k + 25) (n + 150) := by
  refine e_forget (f := a.1) (z := a.2) ?_
  have he := (h.size none).eq
  refine ev_as he ?_
  have hC2 : LC G (sy G b S (a.1, none)) A0 (S.2.2.2 0) n0 m0 := by rw [← he]; exact hC
  refine e_invS (ct_L_agrees hl0 rfl hI.1 hI.2.1.1 hC2 hI.nI hI.2.2.1) vL_agrees hw hd (as := [.ref b, .ref (A0 0)]) rfl rfl hcat hdp ?_
  rintro v c ⟨rfl, e⟩
  rw [e]
  refine e_size (f := (sy G b S (a.1, none)).1) fun z2 _ => ?_
  exact kk _ z2 (h.cls hq8 hub S (some z2)) rfl
end STR
