/-! PART 9ZZM3: a cell of a world that grew by parts is changed -/

noncomputable section
def RP (i : Nat) (x z : Nat × va_E) (t t' : va_W) : Prop := t[i]? = some x ∧ t.set i z = t'
theorem RP_app {i : Nat} {x z : Nat × va_E} {t t' y : va_W} (h : RP i x z t t') : RP i x z (t ++ y) (t' ++ y) := by
  have hl := (List.getElem?_eq_some_iff.mp h.1).1
  exact ⟨by rw [List.getElem?_append_left hl]; exact h.1, by rw [List.set_append_left _ _ hl, h.2]⟩
theorem RP_last {i : Nat} {x z : Nat × va_E} {t : va_W} (h : t.length = i) : RP i x z (t ++ [x]) (t ++ [z]) := by
  subst h
  exact ⟨by simp, by rw [List.set_append_right _ _ (Nat.le_refl _), Nat.sub_self]; rfl⟩
theorem RP_cons {i : Nat} {x z o : Nat × va_E} {t t' : va_W} (h : RP i x z t t') : RP (i + 1) x z (o :: t) (o :: t') := ⟨h.1, congrArg (o :: ·) h.2⟩
theorem app_eq {α : Type} {a a' b b' : List α} (h : a = a') (h2 : b = b') : a ++ b = a' ++ b' := by rw [h, h2]
section GX3
variable {p : Program} {l : Launch} {e : Env} {R : Room} {s : State} {m : MethodId} {args : Array Value} {below : List Frame} {meth : Method} {c : Code} {Q : State → Prop} {nL : Nat} {D : va_G} {dA : Nat → ClassId} {A : Nat → Prop} {cc : ByteArray} {own : String} {ad0 : Nat → Nat → Nat}
theorem h_astq (hG : CG p s m args c cc own nL D dA ad0 A) {cells slots : Nat} {w : va_W} {w' : Nat × va_E → va_W} {lv : List (Nat × Value)} {pc a n v ci N : Nat} {st : List Value} {Cn : String} {T : u_T} {ty0 : Nat → FieldType} {vs : List Value} {f : Nat → Option Nat} {i : Int32} (q0 t0 : Nat) (hd : decode cc pc = .ok (.aastore, 1)) {pc' : Nat} (hpc : pc + 1 = pc') (hk : CLF ci Cn T N ty0) (ht : (TYS dA)[t0]? = some (dA t0, .object Cn)) (hrp : ∀ z, RP q0 (a, .inl (dA t0, n, .inr (.inr (.inr (.inr f))))) z w (w' z)) (hv : (v, .inr (alen ci, vs)) ∈ w) (hin : vp_in i n) (kk : GW p l e R s m args below meth c Q nL D A cells slots (w' (a, .inl (dA t0, n, .inr (.inr (.inr (.inr (va_up f i.toNatClampNeg (some v)))))))) lv pc' st) : GW p l e R s m args below meth c Q nL D A cells slots w lv pc (.ref v :: .int i :: .ref a :: st) :=
  g_astq hG _ q0 t0 hd hpc hk (hrp (a, .inl (dA t0, n, .inr (.inr (.inr (.inr f)))))).1 ht hv hin (hrp _).2 kk
theorem h_row {cells slots : Nat} {w : va_W} {w' : va_W} {lv : List (Nat × Value)} {pc a : Nat} {st : List Value} {cA : ClassId} {x : vp_A} (x' : vp_A) (i : Nat) (hrp : RP i (a, .inl (cA, x)) (a, .inl (cA, x')) w w') (hx : vp_cell cA x = vp_cell cA x') (kk : GW p l e R s m args below meth c Q nL D A cells slots w' lv pc st) : GW p l e R s m args below meth c Q nL D A cells slots w lv pc st := g_row w' hrp.1 hx hrp.2 kk
end GX3
theorem rowcell {cA : ClassId} {n : Nat} {f f' : Nat → Option Nat} (h : ∀ j, j < n → f j = f' j) : vp_cell cA (n, .inr (.inr (.inr (.inr f)))) = vp_cell cA (n, .inr (.inr (.inr (.inr f')))) := by
  rw [vp_cell_q, vp_cell_q]
  exact arrV_cg (fun j hj => congrArg va_rf (h j hj))

end
