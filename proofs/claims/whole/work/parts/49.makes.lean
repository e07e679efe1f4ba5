/-! Cells that are made, at addresses that are known (own rows). -/
theorem kn_d0 (j : Nat) : kw_d 0 j = 0 := by
  unfold kw_d
  rw [Nat.zero_div]
theorem kn_L0 (c : ClassId) (n : Nat) : arrV c n (fun _ => defaultValue .long) = kq_L c n 0 := by
  unfold kq_L
  refine congrArg (arrV c n) (funext fun j => ?_)
  rw [kn_d0]
  rfl
theorem kn_I0 (c : ClassId) (n : Nat) : arrV c n (fun _ => defaultValue .int) = kq_I c n 0 := by
  unfold kq_I
  refine congrArg (arrV c n) (funext fun j => ?_)
  rw [kn_d0]
  rfl
theorem kn_Z0 (c : ClassId) : arrV c 4 (fun _ => defaultValue .boolean) = kq_B c (fun _ => false) := by
  unfold kq_B
  refine congrArg (arrV c 4) (funext fun j => ?_)
  rfl
/-- an array of references: the first i places hold, the rest are null -/
def kn_R (c : ClassId) (n i : Nat) (f : Nat → Nat) : Cell := arrV c n (fun j => if j < i then .ref (f j) else .null)
theorem kn_R_up (c : ClassId) (n i : Nat) (f : Nat → Nat) : (kn_R c n i f).setSlot i (.ref (f i)) = kn_R c n (i + 1) f := by
  unfold kn_R
  rw [arrV_store]
  refine congrArg (arrV c n) (funext fun j => ?_)
  unfold updV
  by_cases e : j = i
  · subst e
    rw [if_pos rfl, if_pos (by omega)]
  · rw [if_neg e]
    show (if j < i then Value.ref (f j) else Value.null) = _
    by_cases h : j < i
    · rw [if_pos h, if_pos (by omega)]
    · rw [if_neg h, if_neg (by omega)]
theorem kn_R_r {U : State} {ty : FieldType} {H : Heap} {a n : Nat} {c : ClassId} {f : Nat → Nat} (hT : ArrOfT U c ty) (h : H[a]? = some (kn_R c n n f)) : kq_r U ty H a n (fun j => .ref (f j)) := by
  refine ⟨_, h, hT n _, (fun q => by cases q), (by unfold kn_R; rw [arrV_size]; exact Nat.le_refl n), fun j hj => ?_⟩
  unfold kn_R
  rw [arrV_read c _ hj, if_pos hj]
theorem kn_outer (c : ClassId) (N h0 : Nat) : ∀ i : Nat, Jvm.Free.Multi.outerC c N h0 i = kn_R c N i (fun j => h0 + 1 + j)
  | 0 => by
    show ({ cls := c, slots := Array.replicate N .null, vm := .none } : Cell) = _
    rw [arrV_new]
    unfold kn_R
    refine congrArg (arrV c N) (funext fun j => ?_)
    rw [if_neg (by omega)]
  | i + 1 => by
    show (Jvm.Free.Multi.outerC c N h0 i).setSlot i (.ref (h0 + 1 + i)) = _
    rw [kn_outer c N h0 i]
    exact kn_R_up c N i (fun j => h0 + 1 + j)
/-- one cell of a world, in another heap -/
theorem kn_keep {D : va_G} {cl : List vw_C} {a : Nat} {x : va_E} {H H1 : Heap} (h : va_P D cl [(a, x)] H) (e : H1[a]? = H[a]?) : va_P D cl [(a, x)] H1 := h.kept (fun k q hk => by
  have h0 : k < 1 := (List.getElem?_eq_some_iff.mp hk).1
  rw [show k = 0 by omega] at hk
  cases hk
  exact e)
/-- the cells behind an object at o -/
def kn_C (H : Heap) (o : Nat) (xs : List Cell) : Prop := ∀ (k : Nat) (x : Cell), xs[k]? = some x → H[o + 1 + k]? = some x
theorem kn_C.nil (H : Heap) (o : Nat) : kn_C H o [] := fun k x h => by cases h
theorem kn_C.put {H H1 : Heap} {o : Nat} {xs : List Cell} (h : kn_C H o xs) (e : ∀ q : Nat, q ≠ o → H1[q]? = H[q]?) : kn_C H1 o xs := fun k x hk => by
  rw [e _ (by omega)]
  exact h k x hk
theorem kn_C.push {H H1 : Heap} {o : Nat} {xs : List Cell} {x : Cell} (h : kn_C H o xs) (hz : H.size = o + 1 + xs.length) (hx : H1[H.size]? = some x) (e : ∀ q : Nat, q < H.size → H1[q]? = H[q]?) : kn_C H1 o (xs ++ [x]) := fun k y hk => by
  by_cases hl : k < xs.length
  · rw [List.getElem?_append_left hl] at hk
    rw [e _ (by omega)]
    exact h k y hk
  · rw [List.getElem?_append_right (by omega)] at hk
    have h0 : k - xs.length < 1 := (List.getElem?_eq_some_iff.mp hk).1
    rw [show k - xs.length = 0 by omega] at hk
    cases hk
    rw [show o + 1 + k = H.size by omega]
    exact hx
theorem kn_C.set {H H1 : Heap} {o j : Nat} {xs : List Cell} {x : Cell} (h : kn_C H o xs) (hx : H1[o + 1 + j]? = some x) (e : ∀ q : Nat, q ≠ o + 1 + j → H1[q]? = H[q]?) : kn_C H1 o (xs.set j x) := fun k y hk => by
  by_cases hj : k = j
  · subst hj
    by_cases hl : k < xs.length
    · rw [List.getElem?_set_self hl] at hk
      cases hk
      exact hx
    · rw [List.getElem?_eq_none (by rw [List.length_set]; omega)] at hk
      cases hk
  · rw [List.getElem?_set_ne (Ne.symm hj)] at hk
    rw [e _ (by omega)]
    exact h k y hk
section KNEW
variable {p : Program} {l : Launch} {e : Env} {R : Room} {s : State} {m : MethodId} {args : Array Value} {below : List Frame} {meth : Method} {c : Code} {H : Heap} {locs : List Loc} {cells slots : Nat} {Q : State → Prop}
variable {cc : ByteArray} {pc : Nat} {ls : Array Slot} {rest : List Value}
theorem kq_newa {atype : ArrayType} {ty : FieldType} {cA : ClassId} (hexec : p.tables.exec = Jvm.exec) (hb : c.code = cc) (harr : (Cond.arrayClass (newarray.typeOf atype)).before args s = true) (hty : newarray.typeOf atype = ty) (hcA : s.vm.findClass ("[" ++ ty.toString) = some cA) {n : Int32} {N : Nat} (hn : ¬ n < 0) (hN : n.toNatClampNeg = N) (hbytes : N * componentBytes ty ≤ 536870912) (hcells : cells + 1 ≤ R.cells) (hslots : slots + N ≤ R.slots) {h : Nat} (hh : H.size = h) (hdg : decode cc pc = .ok (.newarray atype, 2))
    (kk : ∀ H1 : Heap, H1[h]? = some (arrV cA N (fun _ => defaultValue ty)) → H1.size = h + 1 → (∀ q : Nat, q < h → H1[q]? = H[q]?) → W p l e R s m args below meth c H1 locs (cells + 1) (slots + N) Q (F0 m (pc + 2) ls (.ref h :: rest))) : W p l e R s m args below meth c H locs cells slots Q (F0 m pc ls (.int n :: rest)) := by
  subst hty
  refine va_newaK hexec hb harr rfl hdg rfl hn hN hbytes hcells hslots hh (fun H1 cA1 e1 z1 o1 hAr hNm => ?_)
  cases hcA.symm.trans hNm
  exact kk H1 e1 z1 o1
theorem kq_new {y : Cond} {own C : String} {T : u_T} {N ci index : Nat} {D : va_G} {tys : List (ClassId × FieldType)} {fs : List Value} (hexec : p.tables.exec = Jvm.exec) (hb : c.code = cc) (hts : ∀ w ∈ y :: kt_all, w.before args s = true) (hin : ∀ w ∈ u_ws C T N, w ∈ kt_all) (ty : Nat → FieldType) (hty : ∀ k, k < N → parseFieldDescriptor (T k).2.2.1 = some (ty k)) (hown : s.vm.findClass own = some m.cls) (hcl : Cond.classLink own index C ∈ kt_all) (hinst : Cond.instantiable C N ∈ kt_all) (hini : Cond.initialized C ∈ kt_all) (hK : va_K D kr_cl tys s) (hc : kr_cl[ci]? = some (C, T, N)) (hfs : ∀ j, j < N → defaultValue (ty j) = vp_V fs j) (hcells : cells + 1 ≤ R.cells) (hslots : slots + N ≤ R.slots) {h : Nat} (hh : H.size = h) (hdg : decode cc pc = .ok (.new index, 3))
    (kk : ∀ H1 : Heap, va_P D kr_cl [(h, .inr (ci, fs))] H1 → H1.size = h + 1 → (∀ q : Nat, q < h → H1[q]? = H[q]?) → W p l e R s m args below meth c H1 locs (cells + 1) (slots + N) Q (F0 m (pc + 3) ls (.ref h :: rest))) : W p l e R s m args below meth c H locs cells slots Q (F0 m pc ls rest) := by
  have hin2 : ∀ w ∈ u_ws C T N, w ∈ y :: kt_all := fun w hw => List.mem_cons_of_mem _ (hin w hw)
  have hKn := hK.1 ci _ hc
  refine W.newcK hexec hb hown (hts _ (List.mem_cons_of_mem _ hcl)) (hts _ (List.mem_cons_of_mem _ hinst)) (hts _ (List.mem_cons_of_mem _ hini)) rfl hdg hcells hslots hKn.2.1 hh (fun H1 kC hkC e1 z1 o1 => ?_)
  refine kk H1 (fun k x hx => ?_) z1 o1
  have hz : k < 1 := (List.getElem?_eq_some_iff.mp hx).1
  rw [show k = 0 by omega] at hx
  cases hx
  exact ⟨_, hc, (u_born ty hts hin2 hKn hkC e1 hty).to hfs⟩
theorem kq_putF {y : Cond} {own C : String} {T : u_T} {N ci index : Nat} {D : va_G} {tys : List (ClassId × FieldType)} {a : Nat} {fs : List Value} {v : Value} {ty : FieldType} (hexec : p.tables.exec = Jvm.exec) (hb : c.code = cc) (hts : ∀ w ∈ y :: kt_all, w.before args s = true) (hin : ∀ w ∈ u_ws C T N, w ∈ kt_all) (ty0 : Nat → FieldType) (hty : ∀ k, k < N → parseFieldDescriptor (T k).2.2.1 = some (ty0 k)) (hnm : ∀ a, a < N → ∀ b, b < N → a ≠ b → (T a).2.1 ≠ (T b).2.1) (hown : s.vm.findClass own = some m.cls) (hK : va_K D kr_cl tys s) (hP : va_P D kr_cl [(a, .inr (ci, fs))] H) (hc : kr_cl[ci]? = some (C, T, N)) (k : Nat) (hk : k < N) (hlink : Cond.fieldLink own index (T k).1 (T k).2.1 (T k).2.2.1 ∈ kt_all) (hfin : (T k).2.2.2 = true) (hinit : meth.name = "<init>") (hdecl : (T k).1 = own) (hd : parseFieldDescriptor (T k).2.2.1 = some ty) (hn : narrow ty v = v) (hfit : fits ty v = true) (hl : k < fs.length) (hdg : decode cc pc = .ok (.putfield index, 3))
    (kk : ∀ (H1 : Heap) (L : List Loc), va_P D kr_cl [(a, .inr (ci, fs.set k v))] H1 → H1.size = H.size → (∀ q : Nat, q ≠ a → H1[q]? = H[q]?) → (∀ q ∈ L, q.base = a) → W p l e R s m args below meth c H1 (locs ++ L) cells slots Q (F0 m (pc + 3) ls rest)) : W p l e R s m args below meth c H locs cells slots Q (F0 m pc ls (v :: .ref a :: rest)) := by
  have hin2 : ∀ w ∈ u_ws C T N, w ∈ y :: kt_all := fun w hw => List.mem_cons_of_mem _ (hin w hw)
  have hap := va_apart (own := own) hts hin2 ty0 hty hnm hK hc
  obtain ⟨r, h1, cell, q1, q2, q3, q4⟩ := hP 0 _ rfl
  have hr : r = (C, T, N) := Option.some.inj (h1.symm.trans hc)
  subst hr
  obtain ⟨hS, hfc, kC, hkC, hkind⟩ := hK.1 ci _ hc
  obtain ⟨cf, kf, fi, f, hi, hsl⟩ := hS k hk
  have hlay := hts _ (hin2 _ (u_in_lay hk))
  unfold u_lay at hlay
  rw [if_pos hfin] at hlay
  have hst := (u_facts hfc hkC (u_lays hts hin2 hk) hi).1
  have hcf : m.cls = cf := by
    obtain ⟨_, _, c', _, _, _, -, -, hf', -, -, -, hown2, -⟩ := Cond.laysFinal_spec hlay
    have e1 : c' = cf := by have := hi.symm.trans hf'; simp at this; exact this.1.symm
    rw [hdecl] at hown2
    rw [← e1]; exact Option.some.inj (hown.symm.trans hown2)
  have h6 := u_fits hfc hkC hkind (Or.inr hlay) hi hd hn hfit
  refine W.putFinK hexec hb hown (hts _ (List.mem_cons_of_mem _ hlink)) hi hst hcf hinit (by rw [q2]; exact h6) q1 q3 (by rw [hsl]; exact k2_hasslot (q4 k hk)) rfl rfl hdg fun H' e1 e2 e3 => ?_
  rw [hsl] at e1
  refine kk H' _ (fun j q hj => ?_) e2 e3 (fun q hq => ?_)
  · have h0 : j < 1 := (List.getElem?_eq_some_iff.mp hj).1
    rw [show j = 0 by omega] at hj
    cases hj
    exact ⟨_, hc, t_OB.to (V := updV (vp_V fs) k v) ⟨_, e1, q2, q3, t_set q4 hap hk v⟩ (fun j _ => vp_updV_set hl v j)⟩
  · rw [List.mem_singleton] at hq
    rw [hq]
theorem kq_callC {mc ms : Nat} {st0 : List Value} {post : Option Value → Heap → Prop} {a : Array Value} {free : Addr → Prop} (hr : va_Run p l e R s m args below meth c H locs cells slots mc ms (F0 m pc ls st0) rest (kq_Q post a) free)
    (kk : ∀ (v : Option Value) (H1 : Heap) (L : List Loc), post v H1 → (∀ q ∈ L, free q.base) → W p l e R s m args below meth c H1 (locs ++ L) (cells + mc) (slots + ms) Q (F0 m (pc + 3) ls (v.toList ++ rest))) : W p l e R s m args below meth c H locs cells slots Q (F0 m pc ls st0) := by
  intro T hT X
  obtain ⟨v, st₀, t, T', L, h0, X', hL, e1, e2, ⟨w, hw, hq⟩, st⟩ := hr T hT X
  cases hw
  obtain ⟨t2, a1, b1⟩ := kk v t.heap L hq hL T' e1 X'
  exact ⟨t2, st t2 a1, b1⟩
theorem kq_mna {own : String} {index : Nat} {ty : FieldType} {cA cy : ClassId} (hexec : p.tables.exec = Jvm.exec) (hb : c.code = cc) (hown : s.vm.findClass own = some m.cls) (hclink : (Cond.classLink own index ("[" ++ (FieldType.array ty).toString)).before args s = true) (hover : (Cond.arrayOver (.array ty)).before args s = true) (harr : (Cond.arrayClass ty).before args s = true) (hcA : s.vm.findClass ("[" ++ (FieldType.array ty).toString) = some cA) (hcy : s.vm.findClass (FieldType.array ty).toString = some cy) {n k : Int32} {N' K' : Nat} (hn : ¬ n < 0) (hk : ¬ k < 0) (hN : n.toNatClampNeg = N') (hM : k.toNatClampNeg = K')
    (hb1 : N' * 4 ≤ 536870912) (hb2 : K' * componentBytes ty ≤ 536870912) (hb3 : K' ≤ 536870912) (hdf : fits ty (defaultValue ty) = true) (hdd : (defaultValue ty).isDefault = true) (hcells : cells + (1 + N') ≤ R.cells) (hslots : slots + (N' + N' * K') ≤ R.slots) {h : Nat} (hh : H.size = h) (hdg : decode cc pc = .ok (.multianewarray index 2, 4))
    (kk : ∀ H1 : Heap, H1.size = h + 1 + N' → (∀ q : Nat, q < h → H1[q]? = H[q]?) → H1[h]? = some (kn_R cA N' N' (fun j => h + 1 + j)) → (∀ j : Nat, j < N' → H1[h + 1 + j]? = some (arrV cy K' (fun _ => defaultValue ty))) → W p l e R s m args below meth c H1 locs (cells + 1 + N') (slots + N' + N' * K') Q (F0 m (pc + 4) ls (.ref h :: rest))) : W p l e R s m args below meth c H locs cells slots Q (F0 m pc ls (.int k :: .int n :: rest)) := by
  subst hN
  subst hM
  subst hh
  intro T hT Xs
  obtain ⟨vm₁, cA1, comp, -, fA, fC, hO, -, X', step⟩ := Xs.multianewarray2F hexec hown hclink hover harr (g := F0 m pc ls (.int k :: .int n :: rest)) rfl (by rw [hb]; exact hdg) rfl hn hk hb1 hb2 hb3 hdf hdd hcells hslots
  have ec : some cy = some comp := hcy.symm.trans fC
  cases ec
  have eA : some cA = some cA1 := hcA.symm.trans fA
  cases eA
  generalize hF : Jvm.Free.Multi.fill (T.setVm vm₁) cA cy n.toNatClampNeg k.toNatClampNeg (defaultValue ty) n.toNatClampNeg = F at X' step
  have hTh : (T.setVm vm₁).heap = H := hT
  obtain ⟨f1, f2, -, -⟩ := Jvm.Free.Multi.fill_facts (T.setVm vm₁) cA cy n.toNatClampNeg k.toNatClampNeg (defaultValue ty) n.toNatClampNeg
  rw [hF, hTh] at f1 f2
  have hold : ∀ x : Nat, x < H.size → F.heap[x]? = H[x]? := fun x hx => by
    have := Jvm.Free.Multi.fill_old (T.setVm vm₁) cA cy n.toNatClampNeg k.toNatClampNeg (defaultValue ty) (a := x) (by rw [hTh]; exact hx) n.toNatClampNeg
    rw [hF, hTh] at this
    exact this
  have hrow : ∀ j : Nat, j < n.toNatClampNeg → F.heap[H.size + 1 + j]? = some (arrV cy k.toNatClampNeg (fun _ => defaultValue ty)) := fun j hj => by
    have := Jvm.Free.Multi.fill_inner (T.setVm vm₁) cA cy n.toNatClampNeg k.toNatClampNeg (defaultValue ty) n.toNatClampNeg j hj
    rw [hF, hTh] at this
    rw [this, ← arrV_new]
    rfl
  rw [kn_outer] at f2
  obtain ⟨t, a1, b1⟩ := kk F.heap f1 hold f2 hrow F rfl X'
  refine ⟨t, step t ?_, b1⟩
  rw [hT]
  exact a1
theorem kq_newq {own C : String} {index : Nat} {cA : ClassId} (hexec : p.tables.exec = Jvm.exec) (hb : c.code = cc) (hown : s.vm.findClass own = some m.cls) (hclink : (Cond.classLink own index C).before args s = true) (hover : va_AO C s) (hcA : s.vm.findClass ("[" ++ (FieldType.object C).toString) = some cA) {n : Int32} {N' : Nat} (f : Nat → Nat) (hn : ¬ n < 0) (hN : n.toNatClampNeg = N') (hbytes : N' * 4 ≤ 536870912) (hcells : cells + 1 ≤ R.cells) (hslots : slots + N' ≤ R.slots) {h : Nat} (hh : H.size = h) (hdg : decode cc pc = .ok (.anewarray index, 3))
    (kk : ∀ H1 : Heap, H1[h]? = some (kn_R cA N' 0 f) → H1.size = h + 1 → (∀ q : Nat, q < h → H1[q]? = H[q]?) → W p l e R s m args below meth c H1 locs (cells + 1) (slots + N') Q (F0 m (pc + 3) ls (.ref h :: rest))) : W p l e R s m args below meth c H locs cells slots Q (F0 m pc ls (.int n :: rest)) := by
  subst hN
  subst hh
  refine W.anew hexec hb hown hclink (va_AO.use hover) rfl hdg rfl hn hbytes hcells hslots fun cA1 kA comp f1 f2 f3 f4 => ?_
  have ec : some cA = some cA1 := hcA.symm.trans f1
  cases ec
  generalize hH1 : H.push ({ cls := cA, slots := Array.replicate n.toNatClampNeg .null, vm := .none } : Cell) = H1
  refine kk H1 ?_ ?_ ?_
  · rw [← hH1, Array.getElem?_push_size, arrV_new]
    unfold kn_R
    refine congrArg (fun z => some (arrV cA n.toNatClampNeg z)) (funext fun j => ?_)
    rw [if_neg (by omega)]
  · rw [← hH1, Array.size_push]
  · intro q hq
    rw [← hH1, Array.getElem?_push, if_neg (Nat.ne_of_lt hq)]
theorem kq_aast {D : va_G} {tys : List (ClassId × FieldType)} {a n i ci v : Nat} {cA : ClassId} {f : Nat → Nat} {r : vw_C} {fs : List Value} (hexec : p.tables.exec = Jvm.exec) (hb : c.code = cc) (hK : va_K D kr_cl tys s) (t0 : Nat) (ht : tys[t0]? = some (cA, .object r.1)) (hc : kr_cl[ci]? = some r) (h : H[a]? = some (kn_R cA n i f)) (hP : va_P D kr_cl [(v, .inr (ci, fs))] H) (hi : i < n) (hn : n < 2147483648) (hv : f i = v) (hdg : decode cc pc = .ok (.aastore, 1))
    (kk : ∀ H1 : Heap, H1[a]? = some (kn_R cA n (i + 1) f) → H1.size = H.size → (∀ q : Nat, q ≠ a → H1[q]? = H[q]?) → W p l e R s m args below meth c H1 (locs ++ [⟨a, i⟩]) cells slots Q (F0 m (pc + 1) ls rest)) : W p l e R s m args below meth c H locs cells slots Q (F0 m pc ls (.ref v :: .int (nI i) :: .ref a :: rest)) := by
  subst hv
  obtain ⟨r', hr', cellV, g1, g2, g3, -⟩ := hP 0 _ rfl
  have hcls := (hK.1 ci r hc).2
  obtain ⟨kA, comp, k1, k2, k3, -⟩ := (hK.2 t0 _ ht).2
  have hcomp : comp = D.1 ci := Option.some.inj (k3.symm.trans hcls.1)
  subst hcomp
  obtain ⟨kC, hkC, -⟩ := hcls.2
  have hsz : (kn_R cA n i f).slots.size = n := by unfold kn_R; exact arrV_size _ _ _
  have hcl : (nI i).toNatClampNeg = i := nI_clamp (by omega)
  refine W.aast hexec hb h (fun q h => by cases h) (fun h => by cases h) k1 k2 rfl hkC ⟨nI_pos (by omega), by rw [hsz, hcl]; exact hi⟩ g1 (fun q h => by rw [g3] at h; cases h) (by rw [g2]; exact hkC) (by rw [g2]; exact va_assign hcls) rfl rfl hdg fun H1 e z oq => ?_
  rw [hcl] at e ⊢
  rw [kn_R_up] at e
  exact kk H1 e z oq
theorem kq_obj {own : String} {index a : Nat} {y : Cond} (hexec : p.tables.exec = Jvm.exec) (hb : c.code = cc) (hml : c.maxLocals = ls.size) (hts : ∀ w ∈ y :: kt_all, w.before args s = true) (hown : s.vm.findClass own = some m.cls) (hlink : Cond.methodLink own index objectInit ∈ kt_all) (hframes : 1 ≤ R.frames) (hlocals : (rest.map fun v => v.category).sum + 12 ≤ R.locals) (hdg : decode cc pc = .ok (.invokespecial index, 3))
    (kk : W p l e R s m args below meth c H locs cells slots Q (F0 m (pc + 3) ls rest)) : W p l e R s m args below meth c H locs cells slots Q (F0 m pc ls (.ref a :: rest)) :=
  W.objInit hexec hb hown (hts _ (List.mem_cons_of_mem _ hlink)) (hts _ (List.mem_cons_of_mem _ kt_w15)) (hts _ (List.mem_cons_of_mem _ kt_w16)) rfl hml.symm rfl hdg hframes (by show 2 * 0 + _ + 12 ≤ _; omega) kk
end KNEW
theorem kn_C.app {H H1 : Heap} {o : Nat} {xs ys : List Cell} (h : kn_C H o xs) (hz : H.size = o + 1 + xs.length) (hx : ∀ (k : Nat) (x : Cell), ys[k]? = some x → H1[H.size + k]? = some x) (e : ∀ q : Nat, q < H.size → H1[q]? = H[q]?) : kn_C H1 o (xs ++ ys) := fun k y hk => by
  by_cases hl : k < xs.length
  · rw [List.getElem?_append_left hl] at hk
    rw [e _ (by omega)]
    exact h k y hk
  · rw [List.getElem?_append_right (by omega)] at hk
    rw [show o + 1 + k = H.size + (k - xs.length) by omega]
    exact hx _ y hk
theorem kn_five {H : Heap} {h : Nat} {a b : Cell} (e : H[h]? = some a) (r : ∀ j : Nat, j < 4 → H[h + 1 + j]? = some b) : ∀ (k : Nat) (x : Cell), [a, b, b, b, b][k]? = some x → H[h + k]? = some x := fun k x hk => by
  have h5 : k < 5 := (List.getElem?_eq_some_iff.mp hk).1
  rcases (show k = 0 ∨ k = 1 ∨ k = 2 ∨ k = 3 ∨ k = 4 by omega) with rfl | rfl | rfl | rfl | rfl
  · cases hk
    exact e
  · cases hk
    exact r 0 (by decide)
  · cases hk
    exact r 1 (by decide)
  · cases hk
    exact r 2 (by decide)
  · cases hk
    exact r 3 (by decide)
theorem kn_one0 : kw_s 0 0 1 = 1 := by decide +kernel
theorem kn_one : ∀ k, k < 8 → 1 ≤ k → kw_s 1 k 0 = 1 := by decide +kernel
theorem kn_low {V : Nat} (h : 2 ≤ kw_d V 0) : kw_s V 0 (kw_d V 0 - 2) = V - 2 := by
  have h1 := kw_s_eq V 0 (kw_d V 0 - 2)
  have h2 : kw_M 0 = 1 := by decide +kernel
  rw [h2] at h1
  omega
/-- a row that is given from the start: its class and all its places -/
def kn_src (H : Heap) (c : ClassId) (a V : Nat) : Prop := ∃ cell : Cell, H[a]? = some cell ∧ (∀ k, cell.vm ≠ .statics k) ∧ cell.vm ≠ .unknown ∧ cell.cls = c ∧ cell.slots = (kq_L c 8 V).slots
theorem kn_src.kept {H H1 : Heap} {c : ClassId} {a V : Nat} (h : kn_src H c a V) (e : H1[a]? = H[a]?) : kn_src H1 c a V := by
  obtain ⟨cell, h1, h2⟩ := h
  exact ⟨cell, e.trans h1, h2⟩
section KCLONE
variable {p : Program} {l : Launch} {e : Env} {R : Room} {s : State} {m : MethodId} {args : Array Value} {below : List Frame} {meth : Method} {c : Code} {H : Heap} {locs : List Loc} {cells slots : Nat} {Q : State → Prop}
variable {cc : ByteArray} {pc : Nat} {ls : Array Slot} {rest : List Value}
theorem kq_clone {own : String} {index a V tL : Nat} {cL : ClassId} {D : va_G} {tys : List (ClassId × FieldType)} (hexec : p.tables.exec = Jvm.exec) (hb : c.code = cc) (hml : c.maxLocals = ls.size) (hown : s.vm.findClass own = some m.cls)
    (hlink : (Cond.methodLink own index ⟨"[J", "clone", "()Ljava/lang/Object;"⟩).before args s = true) (hsame : (Cond.sameMethod "[J" "java/lang/Object" "clone" "()Ljava/lang/Object;").before args s = true)
    (hnat : (Cond.native ⟨"java/lang/Object", "clone", "()Ljava/lang/Object;"⟩).before args s = true) (hinst : (Cond.instanceMethod ⟨"java/lang/Object", "clone", "()Ljava/lang/Object;"⟩).before args s = true)
    (hsel : (Cond.selects "[J" ⟨"[J", "clone", "()Ljava/lang/Object;"⟩ ⟨"java/lang/Object", "clone", "()Ljava/lang/Object;"⟩).before args s = true) (hcl : va_Nw (.castable "[J" "java/lang/Cloneable") s)
    (hK : va_K D kr_cl tys s) (ht : tys[tL]? = some (cL, .long)) (hs : kn_src H cL a V)
    (hframes : 1 ≤ R.frames) (hlocals : (rest.map fun v => v.category).sum + 14 ≤ R.locals) (hcells : cells + 1 ≤ R.cells) (hslots : slots + 8 ≤ R.slots) {h : Nat} (hh : H.size = h) (hdg : decode cc pc = .ok (.invokevirtual index, 3))
    (kk : ∀ H1 : Heap, H1[h]? = some (kq_L cL 8 V) → H1.size = h + 1 → (∀ q : Nat, q < h → H1[q]? = H[q]?) → W p l e R s m args below meth c H1 locs (cells + 1) (slots + 8) Q (F0 m (pc + 3) ls (.ref h :: rest))) : W p l e R s m args below meth c H locs cells slots Q (F0 m pc ls (.ref a :: rest)) := by
  subst hh
  obtain ⟨cell, c1, c2, c3, c4, c5⟩ := hs
  have hnm : s.vm.findClass "[J" = some cL := (hK.2 tL _ ht).2
  have hsz : cell.slots.size = 8 := by rw [c5]; exact arrV_size _ _ _
  have hcellE : ({ cls := cell.cls, slots := cell.slots } : Cell) = kq_L cL 8 V := by rw [c4, c5]; rfl
  obtain ⟨c0, t0', f1, f2, f3⟩ := Cond.castable_spec (va_Nw.use (A := args) rfl hcl)
  cases hnm.symm.trans f1
  intro T hT X
  have hcellT : T.heap[a]? = some cell := by rw [hT]; exact c1
  obtain ⟨-, kA, hkA, comp, hkind⟩ := State.isArrayOf_alike X.warmed.alike ((hK.2 tL _ ht).1 0 (fun _ => .null))
  obtain ⟨-, kS, hkS, compS, hkindS⟩ := (hK.2 tL _ ht).1 0 (fun _ => .null)
  obtain ⟨vm', X', st⟩ := X.cloneArray hexec hown hlink hsame hnat hinst hsel (a := a) (cell := cell) hcellT c2 c3 (by rw [c4]; exact hnm) f2 (by rw [c4]; exact f3)
    (fun i v hv => by
      have hk' : T.vm.classes[cL]? = some kA := hkA
      have hi : i < 8 := by rw [← hsz]; exact (Array.getElem?_eq_some_iff.mp hv).1
      rw [c5] at hv
      have hv2 : v = .long (lN (kw_d V i)) := Option.some.inj (hv.symm.trans (arrV_read cL _ hi))
      have hfit : fits .long v = true := by rw [hv2]; rfl
      rw [c4]
      simpa [State.fitsSlot, State.slotType?, hk', hkind] using hfit)
    (g := F0 m pc ls (.ref a :: rest)) rfl (by rw [hml]) rfl (by rw [hb]; exact hdg) hframes (by show 2 * 0 + _ + 14 ≤ _; omega) hcells (by rw [hsz]; exact hslots) (hloader := by rw [c4]; exact Vm.clonesLoader_of_array hkS hkindS)
  rw [hcellE, hsz] at X'
  generalize hH1 : H.push (kq_L cL 8 V) = H1
  obtain ⟨t, b1, b2⟩ := kk H1 (by rw [← hH1, Array.getElem?_push_size]) (by rw [← hH1, Array.size_push]) (fun q hq => by rw [← hH1, Array.getElem?_push, if_neg (Nat.ne_of_lt hq)]) ((T.setVm vm').pushCell (kq_L cL 8 V)) (by rw [← hH1, ← hT]; rfl) X'
  refine ⟨t, st t ?_, b2⟩
  rw [hcellE, hT]
  exact b1
theorem kq_cast {own nm : String} {index a n : Nat} {cA : ClassId} {f : Nat → Value} (hexec : p.tables.exec = Jvm.exec) (hb : c.code = cc) (hown : s.vm.findClass own = some m.cls) (hlink : (Cond.classLink own index nm).before args s = true) (h : H[a]? = some (arrV cA n f)) (hnm : s.vm.findClass nm = some cA) (hdg : decode cc pc = .ok (.checkcast index, 3))
    (k : W p l e R s m args below meth c H locs cells slots Q (F0 m (pc + 3) ls (.ref a :: rest))) : W p l e R s m args below meth c H locs cells slots Q (F0 m pc ls (.ref a :: rest)) := by
  intro T hT X
  obtain ⟨vm', X', st⟩ := X.checkcastYes hexec hown hlink (by rw [hT]; exact h) (by rfl) hnm (va_asg _ _) (g := F0 m pc ls (.ref a :: rest)) rfl rfl (by rw [hb]; exact hdg)
  obtain ⟨t, a1, b1⟩ := k (T.setVm vm') hT X'
  exact ⟨t, st t a1, b1⟩
end KCLONE
