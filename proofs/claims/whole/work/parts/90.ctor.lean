/-! constructors: what a new object's cells are -/
def jn_at (D : va_G) (kA : Nat → ClassId) (w0 : va_W) (sz : Nat) (U : State) : Prop := U.heap.size = sz ∧ va_P D vwCl w0 U.heap ∧ va_K D vwCl (jtys kA) U ∧ (∀ x ∈ NW, va_Nw x U) ∧ va_AO RX4 U ∧ va_D (fun _ => True) w0
def jm_n (l : Launch) (D : va_G) (kA : Nat → ClassId) (y : MethodName) (b : ByteArray) (nL : Nat) (rm : Room) (av : List Value) (sz : Nat) (w0 : va_W) (w1 : (Nat → Nat) → va_W) (po : (Nat → Nat) → Prop) : Prop :=
  Met l y (.code y b nL none :: KW) rm (va_Pc av (jn_at D kA w0 sz)) (va_Qv po (fun q t => va_P D vwCl (w1 q) t.heap ∧ va_D (va_A w0 sz) (w1 q)) (va_A w0 sz)) rm.cells rm.slots (va_A w0 sz)
theorem jn_blind {D : va_G} {kA : Nat → ClassId} {w0 : va_W} {sz : Nat} {av : List Value} : FrameBlind (va_Pc av (jn_at D kA w0 sz)) := fun a U g mk h => ⟨h.1, h.2.1, h.2.2.1, va_K.moved (u := U) (U := U.calling g mk a) (Vm.Alike.refl U.vm) h.2.2.2.1, fun x hx => jw_nest_same (u := U) (U := U.calling g mk a) (c_hNW x hx) rfl (h.2.2.2.2.1 x hx), va_AO.moved (u := U) (U := U.calling g mk a) (Vm.Alike.refl U.vm) h.2.2.2.2.2.1, h.2.2.2.2.2.2⟩
theorem jm_n_of {l : Launch} {D : va_G} {kA : Nat → ClassId} {y : MethodName} {b : ByteArray} {nL : Nat} {rm : Room} {av : List Value} {sz : Nat} {w0 : va_W} {w1 : (Nat → Nat) → va_W} {po : (Nat → Nat) → Prop} (hy : plainName y.cls = true) (hyn : y.name = "<init>") (hn : (lg_sl av).length ≤ nL)
    (body : ∀ (p : Program) (e : Env) (s : State) (m : MethodId) (below : List Frame) (meth : Method) (c : Code), p.tables.exec = Jvm.exec → c.code = b → c.maxLocals = nL → s.vm.findClass y.cls = some m.cls → (∀ w ∈ KW, w.before av.toArray s = true) → meth.sig.returnType = none → meth.locks = false → va_K D vwCl (jtys kA) s → (∀ x ∈ NW, va_Nw x s) → va_AO RX4 s → meth.name = "<init>" → va_P D vwCl w0 s.heap → ∀ A : Nat → Prop, va_D A w0 → (∀ q : Nat, s.heap.size ≤ q → A q) → va_S A s.heap s.heap [] → ∀ ls : Array Slot, lv_has ls nL (lv_args 0 av) →
      W p l e rm s m av.toArray below meth c s.heap [] 0 0 (MQ below (va_Qv po (fun q t => va_P D vwCl (w1 q) t.heap ∧ va_D A (w1 q)) A) av.toArray s rm.cells rm.slots A) (F0 m 0 ls [])) : jm_n l D kA y b nL rm av sz w0 w1 po := by
  refine Met.ofW (cc := b) (maxL := nL) (ret := none) hy rfl ?_
  intro p e s m args below meth c s₁ B hml hv
  obtain ⟨rfl, hsz, hP, hK, hN, hAO, hD0⟩ := hv
  have hts := atoms_spec (ws := .code y b nL none :: KW) B.pre
  have hl := lv_entry av (n := nL) hn
  subst hsz
  rw [lg_entry_eq]
  exact body p e s m below meth c B.exec B.bytes hml (findClass_of_methodNamed B.named) (fun w h => hts w (List.mem_cons_of_mem _ h)) B.returns B.notSynchronized hK hN hAO ((name_of_methodNamed B.named B.method).1.trans hyn) hP _ hD0.self (fun q h => Or.inr h) va_S.rf _ hl
section JN
variable {p : Program} {l : Launch} {e : Env} {R : Room} {s : State} {m : MethodId} {args : Array Value} {below : List Frame} {meth : Method} {c : Code} {H : Heap} {locs : List Loc} {cells slots : Nat} {Q : State → Prop}
variable {cc : ByteArray} {pc nL : Nat} {ls : Array Slot} {rest st0 As : List Value} {D : va_G} {A : Nat → Prop} {a : Nat} {kA : Nat → ClassId} {ws : va_W} {H0 : Heap} {own : String}
theorem jn_nai (hx : p.tables.exec = Jvm.exec) (hb : c.code = cc) (hts : ∀ w ∈ KW, w.before args s = true) (harr : Cond.arrayClass .int ∈ KW) (hK : va_K D vwCl (jtys kA) s) (hP : va_P D vwCl ws H) (hD : va_D A ws) (hS : va_S A H0 H locs) (hA : ∀ q, H0.size ≤ q → A q) {n : Int32} {N' : Nat} (hn : ¬ n < 0) (hN : n.toNatClampNeg = N') (hbytes : N' * 4 ≤ 536870912) (hcells : cells + 1 ≤ R.cells) (hslots : slots + N' ≤ R.slots) (hdg : decode cc pc = .ok (.newarray .int, 2))
    (kk : ∀ (q : Nat) (H1 : Heap), va_P D vwCl (ws ++ [(q, .inl (kA 0, N', .inl (fun _ => 0)))]) H1 → va_D A (ws ++ [(q, .inl (kA 0, N', .inl (fun _ => 0)))]) → va_S A H0 H1 locs → W p l e R s m args below meth c H1 locs (cells + 1) (slots + N') Q (F0 m (pc + 2) ls (.ref q :: rest))) : W p l e R s m args below meth c H locs cells slots Q (F0 m pc ls (.int n :: rest)) := by
  refine va_newa (atype := .int) (a0 := (N', .inl (fun _ => 0))) hx hb (hts _ harr) rfl hK hP hD hS hA (fun _ => rfl) hn hN hbytes hcells hslots hdg (fun q cA H1 hK1 hP1 hD1 hS1 => ?_)
  have e0 : cA = kA 0 := Option.some.inj ((va_nm_int (hK1.2 4 _ rfl).2).symm.trans (va_nm_int (hK.2 0 _ rfl).2))
  subst e0
  exact kk q H1 hP1 hD1 hS1
theorem jn_nal (hx : p.tables.exec = Jvm.exec) (hb : c.code = cc) (hts : ∀ w ∈ KW, w.before args s = true) (harr : Cond.arrayClass .long ∈ KW) (hK : va_K D vwCl (jtys kA) s) (hP : va_P D vwCl ws H) (hD : va_D A ws) (hS : va_S A H0 H locs) (hA : ∀ q, H0.size ≤ q → A q) {n : Int32} {N' : Nat} (hn : ¬ n < 0) (hN : n.toNatClampNeg = N') (hbytes : N' * 8 ≤ 536870912) (hcells : cells + 1 ≤ R.cells) (hslots : slots + N' ≤ R.slots) (hdg : decode cc pc = .ok (.newarray .long, 2))
    (kk : ∀ (q : Nat) (H1 : Heap), va_P D vwCl (ws ++ [(q, .inl (kA 1, N', .inr (.inl (fun _ => 0))))]) H1 → va_D A (ws ++ [(q, .inl (kA 1, N', .inr (.inl (fun _ => 0))))]) → va_S A H0 H1 locs → W p l e R s m args below meth c H1 locs (cells + 1) (slots + N') Q (F0 m (pc + 2) ls (.ref q :: rest))) : W p l e R s m args below meth c H locs cells slots Q (F0 m pc ls (.int n :: rest)) := by
  refine va_newa (atype := .long) (a0 := (N', .inr (.inl (fun _ => 0)))) hx hb (hts _ harr) rfl hK hP hD hS hA (fun _ => rfl) hn hN hbytes hcells hslots hdg (fun q cA H1 hK1 hP1 hD1 hS1 => ?_)
  have e0 : cA = kA 1 := Option.some.inj ((va_nm_long (hK1.2 4 _ rfl).2).symm.trans (va_nm_long (hK.2 1 _ rfl).2))
  subst e0
  exact kk q H1 hP1 hD1 hS1
theorem jn_naz (hx : p.tables.exec = Jvm.exec) (hb : c.code = cc) (hts : ∀ w ∈ KW, w.before args s = true) (harr : Cond.arrayClass .boolean ∈ KW) (hK : va_K D vwCl (jtys kA) s) (hP : va_P D vwCl ws H) (hD : va_D A ws) (hS : va_S A H0 H locs) (hA : ∀ q, H0.size ≤ q → A q) {n : Int32} {N' : Nat} (hn : ¬ n < 0) (hN : n.toNatClampNeg = N') (hbytes : N' * 1 ≤ 536870912) (hcells : cells + 1 ≤ R.cells) (hslots : slots + N' ≤ R.slots) (hdg : decode cc pc = .ok (.newarray .boolean, 2))
    (kk : ∀ (q : Nat) (H1 : Heap), va_P D vwCl (ws ++ [(q, .inl (kA 2, N', .inl (fun _ => 0)))]) H1 → va_D A (ws ++ [(q, .inl (kA 2, N', .inl (fun _ => 0)))]) → va_S A H0 H1 locs → W p l e R s m args below meth c H1 locs (cells + 1) (slots + N') Q (F0 m (pc + 2) ls (.ref q :: rest))) : W p l e R s m args below meth c H locs cells slots Q (F0 m pc ls (.int n :: rest)) := by
  refine va_newa (atype := .boolean) (a0 := (N', .inl (fun _ => 0))) hx hb (hts _ harr) rfl hK hP hD hS hA (fun _ => rfl) hn hN hbytes hcells hslots hdg (fun q cA H1 hK1 hP1 hD1 hS1 => ?_)
  have e0 : cA = kA 2 := Option.some.inj ((va_nm_boolean (hK1.2 4 _ rfl).2).symm.trans (va_nm_boolean (hK.2 2 _ rfl).2))
  subst e0
  exact kk q H1 hP1 hD1 hS1
theorem jn_naq (hx : p.tables.exec = Jvm.exec) (hb : c.code = cc) (hts : ∀ w ∈ KW, w.before args s = true) {idx : Nat} (hown : s.vm.findClass own = some m.cls) (hcl : Cond.classLink own idx RX4 ∈ KW) (hAO : va_AO RX4 s) (hK : va_K D vwCl (jtys kA) s) (hP : va_P D vwCl ws H) (hD : va_D A ws) (hS : va_S A H0 H locs) (hA : ∀ q, H0.size ≤ q → A q) {n : Int32} {N' : Nat} (hn : ¬ n < 0) (hN : n.toNatClampNeg = N') (hbytes : N' * 4 ≤ 536870912) (hcells : cells + 1 ≤ R.cells) (hslots : slots + N' ≤ R.slots) (hdg : decode cc pc = .ok (.anewarray idx, 3))
    (kk : ∀ (q : Nat) (H1 : Heap), va_P D vwCl (ws ++ [(q, .inl (kA 3, N', .inr (.inr (.inr (.inr (fun _ => none))))))]) H1 → va_D A (ws ++ [(q, .inl (kA 3, N', .inr (.inr (.inr (.inr (fun _ => none))))))]) → va_S A H0 H1 locs → W p l e R s m args below meth c H1 locs (cells + 1) (slots + N') Q (F0 m (pc + 3) ls (.ref q :: rest))) : W p l e R s m args below meth c H locs cells slots Q (F0 m pc ls (.int n :: rest)) := by
  refine va_newq hx hb hown (hts _ hcl) hAO hK hP hD hS hA hn hN hbytes hcells hslots hdg (fun q cA H1 hK1 hP1 hD1 hS1 => ?_)
  have e0 : cA = kA 3 := Option.some.inj ((va_nmO (hK1.2 4 _ rfl).2 rfl).symm.trans (va_nmO (hK.2 3 _ rfl).2 rfl))
  subst e0
  exact kk q H1 hP1 hD1 hS1
/-- a constructor is called, by a nest mate's link or by a plain one -/
theorem jn_call (hx : p.tables.exec = Jvm.exec) (hb : c.code = cc) (hml : c.maxLocals = nL) (hown : s.vm.findClass own = some m.cls) (hts : ∀ w ∈ KW, w.before args s = true) (hK : va_K D vwCl (jtys kA) s) (hN : ∀ x ∈ NW, va_Nw x s) (hAO : va_AO RX4 s) (hls : ls.size = nL)
    {y : MethodName} {b' : ByteArray} {nL' idx n : Nat} {rm' : Room} {wc wr : va_W} {w1 : (Nat → Nat) → va_W} {po : (Nat → Nat) → Prop} (hM : jm_n l D kA y b' nL' rm' (.ref a :: As) H.size wc w1 po)
    (hP : va_P D vwCl ws H) (hD : va_D A ws) (hS : va_S A H0 H locs) (hA : ∀ q, H0.size ≤ q → A q) (isC isR : List Nat) (hC : isC.map (fun i => ws[i]?) = wc.map some) (hC2 : isC.filterMap (fun i => ws[i]?) = wc) (hR : isR.map (fun i => ws[i]?) = wr.map some) (hnC : va_nd isC = true) (hnR : va_nd isR = true) (hdis : ∀ i ∈ isR, i ∉ isC)
    (hcode : Cond.code y b' nL' none ∈ KW) (hlink : Cond.methodLink own idx y ∈ KW ∨ ∃ host, Cond.methodLinkNest own idx y host ∈ NW) (hinst : Cond.instanceMethod y ∈ KW) (hini : Cond.initialized y.cls ∈ KW) (hname : y.name = "<init>")
    (hd : y.cls ≠ "java/lang/invoke/MethodHandle" ∧ y.cls ≠ "java/lang/invoke/VarHandle" ∧ (parseMethodDescriptor y.desc).map (fun d => d.parameters.length) = some n) (hn : As.length = n) (hRm : rm'.frames + 1 ≤ R.frames ∧ 8 + (nL' + 11) + rm'.locals ≤ R.locals)
    (hst : st0 = As.reverse ++ .ref a :: rest) (hW : (rest.map fun v => v.category).sum ≤ 8) (hdg : decode cc pc = .ok (.invokespecial idx, 3)) (hcs : cells + rm'.cells ≤ R.cells ∧ slots + rm'.slots ≤ R.slots)
    (kk : ∀ (q : Nat → Nat) (H1 : Heap) (locs1 : List Loc), po q → va_P D vwCl (wr ++ w1 q) H1 → va_D A (wr ++ w1 q) → va_S A H0 H1 locs1 → W p l e R s m args below meth c H1 locs1 (cells + rm'.cells) (slots + rm'.slots) Q (F0 m (pc + 3) ls rest)) : W p l e R s m args below meth c H locs cells slots Q (F0 m pc ls st0) := by
  have hPc := hP.sub (ws' := wc) isC hC2
  have hDc := hD.sub (ws' := wc) isC hnC hC
  have hFc := va_free (wc := wc) hD hS hA isC hC
  have hpre : PreS s H (va_Pc (.ref a :: As) (jn_at D kA wc H.size)) (.ref a :: As) := ⟨jn_blind, fun U hU hW => ⟨rfl, by rw [hU], by rw [hU]; exact hPc, va_K.moved hW.alike hK, fun x hx => jw_nest_warm (c_hNW x hx) hW (hN x hx), va_AO.moved hW.alike hAO, hDc.weaken (fun _ _ _ _ => trivial)⟩⟩
  have run : va_Run p l e R s m args below meth c H locs cells slots rm'.cells rm'.slots (F0 m pc ls st0) rest (va_Qv po (fun q t => va_P D vwCl (w1 q) t.heap ∧ va_D (va_A wc H.size) (w1 q)) (va_A wc H.size) (Value.ref a :: As).toArray) (va_A wc H.size) := by
    rcases hlink with hl | ⟨host, hl⟩
    · exact va_runI ⟨hx, hb, hml, hown, hts⟩ hM (cwI n hts (jg_in c_hG hcode) rfl rfl rfl (hts _ hini) (hts _ hl) (hts _ hinst) hname hd hRm) hpre rfl hn hls hst (lv_room hW) hdg hcs
    · exact va_runIN ⟨hx, hb, hml, hown, hts⟩ hM ⟨va_cnB n hts (jg_in c_hG hcode) rfl rfl rfl (hN _ hl) (hts _ hini) hd hRm, hname, hts _ hinst⟩ hpre rfl hn hls hst (lv_room hW) hdg hcs
  refine va_callv run hS (fun q _ h => hFc q h) hFc (fun u t H1 locs1 ht hvm hw hB hz1 hk1 hS1 => ?_)
  obtain ⟨hP1, hD1⟩ := hB
  rw [ht] at hP1
  obtain ⟨hP', hD'⟩ := va_join hP hD isC isR hC hR hnR hdis hk1 hFc hP1 hD1
  exact kk u H1 locs1 hw hP' hD' hS1
/-- a method of a whole system is called where cells have been made -/
theorem jv_runG (hx : p.tables.exec = Jvm.exec) (hb : c.code = cc) (hml : c.maxLocals = nL) (hown : s.vm.findClass own = some m.cls) (hts : ∀ w ∈ KW, w.before args s = true) (hK : va_K D vwCl (jtys kA) s) (hN : ∀ x ∈ NW, va_Nw x s) (hls : ls.size = nL) {w : RS → va_W} {σ : RS}
    {y : MethodName} {b' : ByteArray} {nL' idx n ci q0 : Nat} {ret' : Option FieldType} {rm : Room} {Qc : Array Value → State → Outcome → State → Prop} {vc : vw_C} {fs : List Value}
    (hM : Met l y (.code y b' nL' ret' :: KW) rm (va_Pc (.ref a :: As) (jw_at D vwCl (jtys kA) NW w σ)) Qc 0 0 A) (hP : va_P D vwCl (w σ) H) (hc : vwCl[ci]? = some vc) (he : (w σ)[q0]? = some (a, .inr (ci, fs))) (hvc : vc.1 = y.cls)
    (hcode : Cond.code y b' nL' ret' ∈ KW) (hlink : Cond.methodLink own idx y ∈ KW) (hinst : Cond.instanceMethod y ∈ KW) (hsel : Cond.selects y.cls y y ∈ KW) (hini : Cond.initialized y.cls ∈ KW) (hrm : rm.cells = 0 ∧ rm.slots = 0)
    (hd : y.cls ≠ "java/lang/invoke/MethodHandle" ∧ y.cls ≠ "java/lang/invoke/VarHandle" ∧ (parseMethodDescriptor y.desc).map (fun d => d.parameters.length) = some n) (hn : As.length = n) (hR : rm.frames + 1 ≤ R.frames ∧ 8 + (nL' + 11) + rm.locals ≤ R.locals)
    (hst : st0 = As.reverse ++ .ref a :: rest) (hW : (rest.map fun v => v.category).sum ≤ 8) (hdg : decode cc pc = .ok (.invokevirtual idx, 3)) (hcs : cells + 0 ≤ R.cells ∧ slots + 0 ≤ R.slots) :
    va_Run p l e R s m args below meth c H locs cells slots 0 0 (F0 m pc ls st0) rest (Qc (Value.ref a :: As).toArray) A :=
  va_runV (C := y.cls) ⟨hx, hb, hml, hown, hts⟩ hM ⟨callB_of n hts (jg_in c_hG hcode) rfl hrm.1 hrm.2 (hts _ hini) (hts _ hlink) hd hR, hts _ hinst, hts _ hsel⟩
    ⟨jw_blind c_hNW, by have h := va_recv hK hP hc he; rw [hvc] at h; exact h, fun U hU hW => ⟨rfl, jw_at_of c_hNW hP hK hN hU hW⟩⟩ rfl hn hls hst (lv_room hW) hdg hcs
end JN
theorem cell_q {cA : ClassId} {n : Nat} {f g : Nat → Option Nat} (h : ∀ j, j < n → f j = g j) : vp_cell cA (n, .inr (.inr (.inr (.inr f)))) = vp_cell cA (n, .inr (.inr (.inr (.inr g)))) := by
  rw [vp_cell_q, vp_cell_q]
  unfold arrV
  have e : (fun j : Fin n => va_rf (f j.val)) = fun j : Fin n => va_rf (g j.val) := funext fun j => by rw [h j.val j.isLt]
  rw [e]
theorem P_ref {D : va_G} {cl : List vw_C} {ws : va_W} {H : Heap} {k a n : Nat} {cA : ClassId} {f g : Nat → Option Nat} (hP : va_P D cl ws H) (hk : ws[k]? = some (a, .inl (cA, n, .inr (.inr (.inr (.inr f)))))) (h : ∀ j, j < n → f j = g j) : va_P D cl (ws.set k (a, .inl (cA, n, .inr (.inr (.inr (.inr g)))))) H := by
  intro i q hi
  by_cases z : i = k
  · subst z
    rw [List.getElem?_set_self (List.getElem?_eq_some_iff.mp hk).1] at hi
    cases hi
    have := hP i _ hk
    show H[a]? = some (vp_cell _ _)
    rw [← cell_q h]
    exact this
  · rw [List.getElem?_set_ne (Ne.symm z)] at hi
    exact hP i q hi
theorem jw_ap_of {N : Nat} {ad : Nat → Nat} {A : Nat → Prop} {ws : va_W} (hD : va_D A ws) (hw : ws.map (·.1) = (List.range N).map ad) : jw_ap N ad ∧ ∀ i, i < N → A (ad i) := by
  have key : ∀ i, i < N → ∃ q : Nat × va_E, ws[i]? = some q ∧ q.1 = ad i := by
    intro i hi
    have h1 : (ws.map (·.1))[i]? = some (ad i) := by rw [hw, List.getElem?_map, List.getElem?_range hi]; rfl
    rw [List.getElem?_map] at h1
    cases hq : ws[i]? with
    | none => rw [hq] at h1; cases h1
    | some q => rw [hq] at h1; exact ⟨q, rfl, Option.some.inj h1⟩
  refine ⟨fun i j hi hj e => ?_, fun i hi => ?_⟩
  · obtain ⟨p, p1, p2⟩ := key i hi
    obtain ⟨q, q1, q2⟩ := key j hj
    exact hD.1 i j p q p1 q1 (by rw [p2, q2, e])
  · obtain ⟨q, q1, q2⟩ := key i hi
    rw [← q2]
    exact hD.2 i q q1
