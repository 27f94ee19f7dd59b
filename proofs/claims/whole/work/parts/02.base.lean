/-! registers: what the cells of a system hold: int fields, long fields, int (and boolean) arrays, long arrays -/
abbrev RS : Type := (Nat → Int32) × (Nat → Int64) × (Nat → Nat → Int32) × (Nat → Nat → Int64)
def rg_I (σ : RS) (k : Nat) : Int32 := σ.1 k
def rg_L (σ : RS) (k : Nat) : Int64 := σ.2.1 k
def rg_A (σ : RS) (k : Nat) : Nat → Int32 := σ.2.2.1 k
def rg_B (σ : RS) (k : Nat) : Nat → Int64 := σ.2.2.2 k
def rs_I (σ : RS) (k : Nat) (v : Int32) : RS := (va_up σ.1 k v, σ.2.1, σ.2.2.1, σ.2.2.2)
def rs_L (σ : RS) (k : Nat) (v : Int64) : RS := (σ.1, va_up σ.2.1 k v, σ.2.2.1, σ.2.2.2)
def rs_A (σ : RS) (k : Nat) (v : Nat → Int32) : RS := (σ.1, σ.2.1, va_up σ.2.2.1 k v, σ.2.2.2)
def rs_B (σ : RS) (k : Nat) (v : Nat → Int64) : RS := (σ.1, σ.2.1, σ.2.2.1, va_up σ.2.2.2 k v)
/-! the words of the functions that a method comes to -/
def kn_v {α β : Type} (a : α) (k : α → Option β) : Option β := k a
def kn_ld {α β : Type} (f : Nat → α) (n : Nat) (i : Int32) (k : α → Option β) : Option β := if i < 0 ∨ n ≤ i.toNatClampNeg then none else k (f i.toNatClampNeg)
def kn_st {β : Type} (σ : RS) (n : Nat) (i : Int32) (k : RS → Option β) : Option β := if i < 0 ∨ n ≤ i.toNatClampNeg then none else k σ
def kn_i {β : Type} (o : Option (Int32 × RS)) (k : Int32 → RS → Option β) : Option β := o.bind (fun q => k q.1 q.2)
def kn_l {β : Type} (o : Option (Int64 × RS)) (k : Int64 → RS → Option β) : Option β := o.bind (fun q => k q.1 q.2)
def kn_u {β : Type} (o : Option RS) (k : RS → Option β) : Option β := o.bind k
def kn_nz32 {β : Type} (y : Int32) (k : Option β) : Option β := if y = 0 then none else k
def kn_nz64 {β : Type} (y : Int64) (k : Option β) : Option β := if y = 0 then none else k
def kn_cp {β : Type} (n0 n1 : Nat) (sp dp n : Int32) (σ : RS) (k : RS → Option β) : Option β := if sp < 0 ∨ dp < 0 ∨ n < 0 ∨ n0 < sp.toNatClampNeg + n.toNatClampNeg ∨ n1 < dp.toNatClampNeg + n.toNatClampNeg then none else k σ
def kn_bz (f : Nat → Int32) (sp n : Nat) : Bool := (List.range n).all (fun i => fits .boolean (.int (f (sp + i))))
def kn_cz {β : Type} (f : Nat → Int32) (n0 n1 : Nat) (sp dp n : Int32) (σ : RS) (k : RS → Option β) : Option β := if kn_bz f sp.toNatClampNeg n.toNatClampNeg = true then kn_cp n0 n1 sp dp n σ k else none
theorem kn_ld_e {α β : Type} {f : Nat → α} {n : Nat} {i : Int32} {k : α → Option β} {r : β} (h : kn_ld f n i k = some r) : vp_in i n ∧ k (f i.toNatClampNeg) = some r := by
  unfold kn_ld at h
  by_cases c : i < 0 ∨ n ≤ i.toNatClampNeg
  · rw [if_pos c] at h; cases h
  · rw [if_neg c] at h; exact ⟨c, h⟩
theorem kn_st_e {β : Type} {σ : RS} {n : Nat} {i : Int32} {k : RS → Option β} {r : β} (h : kn_st σ n i k = some r) : vp_in i n ∧ k σ = some r := by
  unfold kn_st at h
  by_cases c : i < 0 ∨ n ≤ i.toNatClampNeg
  · rw [if_pos c] at h; cases h
  · rw [if_neg c] at h; exact ⟨c, h⟩
theorem kn_i_e {β : Type} {o : Option (Int32 × RS)} {k : Int32 → RS → Option β} {r : β} (h : kn_i o k = some r) : ∃ v σ, o = some (v, σ) ∧ k v σ = some r := by
  unfold kn_i at h
  cases o with
  | none => cases h
  | some q => exact ⟨q.1, q.2, rfl, h⟩
theorem kn_l_e {β : Type} {o : Option (Int64 × RS)} {k : Int64 → RS → Option β} {r : β} (h : kn_l o k = some r) : ∃ v σ, o = some (v, σ) ∧ k v σ = some r := by
  unfold kn_l at h
  cases o with
  | none => cases h
  | some q => exact ⟨q.1, q.2, rfl, h⟩
theorem kn_u_e {β : Type} {o : Option RS} {k : RS → Option β} {r : β} (h : kn_u o k = some r) : ∃ σ, o = some σ ∧ k σ = some r := by
  unfold kn_u at h
  cases o with
  | none => cases h
  | some q => exact ⟨q, rfl, h⟩
theorem kn_nz32_e {β : Type} {y : Int32} {k : Option β} {r : β} (h : kn_nz32 y k = some r) : ¬ y = 0 ∧ k = some r := by
  unfold kn_nz32 at h
  by_cases c : y = 0
  · rw [if_pos c] at h; cases h
  · rw [if_neg c] at h; exact ⟨c, h⟩
theorem kn_nz64_e {β : Type} {y : Int64} {k : Option β} {r : β} (h : kn_nz64 y k = some r) : ¬ y = 0 ∧ k = some r := by
  unfold kn_nz64 at h
  by_cases c : y = 0
  · rw [if_pos c] at h; cases h
  · rw [if_neg c] at h; exact ⟨c, h⟩
theorem kn_cp_e {β : Type} {n0 n1 : Nat} {sp dp n : Int32} {σ : RS} {k : RS → Option β} {r : β} (h : kn_cp n0 n1 sp dp n σ k = some r) : (¬ sp < 0 ∧ ¬ dp < 0 ∧ ¬ n < 0 ∧ sp.toNatClampNeg + n.toNatClampNeg ≤ n0 ∧ dp.toNatClampNeg + n.toNatClampNeg ≤ n1) ∧ k σ = some r := by
  unfold kn_cp at h
  by_cases c : sp < 0 ∨ dp < 0 ∨ n < 0 ∨ n0 < sp.toNatClampNeg + n.toNatClampNeg ∨ n1 < dp.toNatClampNeg + n.toNatClampNeg
  · rw [if_pos c] at h; cases h
  · rw [if_neg c] at h
    simp only [not_or, Nat.not_lt] at c
    exact ⟨c, h⟩
theorem kn_cz_e {β : Type} {f : Nat → Int32} {n0 n1 : Nat} {sp dp n : Int32} {σ : RS} {k : RS → Option β} {r : β} (h : kn_cz f n0 n1 sp dp n σ k = some r) : (∀ i, i < n.toNatClampNeg → fits .boolean (.int (f (sp.toNatClampNeg + i))) = true) ∧ (¬ sp < 0 ∧ ¬ dp < 0 ∧ ¬ n < 0 ∧ sp.toNatClampNeg + n.toNatClampNeg ≤ n0 ∧ dp.toNatClampNeg + n.toNatClampNeg ≤ n1) ∧ k σ = some r := by
  unfold kn_cz at h
  by_cases c : kn_bz f sp.toNatClampNeg n.toNatClampNeg = true
  · rw [if_pos c] at h
    refine ⟨fun i hi => ?_, kn_cp_e h⟩
    exact List.all_eq_true.mp c i (List.mem_range.mpr hi)
  · rw [if_neg c] at h; cases h
theorem kn_t {β : Type} {c : Prop} {d : Decidable c} {X Y : Option β} {r : β} (h : (@ite _ c d X Y) = some r) (hc : c) : X = some r := by rw [if_pos hc] at h; exact h
theorem kn_f {β : Type} {c : Prop} {d : Decidable c} {X Y : Option β} {r : β} (h : (@ite _ c d X Y) = some r) (hc : ¬ c) : Y = some r := by rw [if_neg hc] at h; exact h
/-! a world that the registers fill, at addresses ad 0 .. ad (N - 1) -/
def jw_A (N : Nat) (ad : Nat → Nat) : Nat → Prop := fun q => ∃ k, k < N ∧ q = ad k
def jw_ap (N : Nat) (ad : Nat → Nat) : Prop := ∀ i j, i < N → j < N → ad i = ad j → i = j
theorem jw_D {N : Nat} {ad : Nat → Nat} {ws : va_W} (hap : jw_ap N ad) (hw : ws.map (·.1) = (List.range N).map ad) : va_D (jw_A N ad) ws := by
  have hlen : ws.length = N := by
    have h := congrArg List.length hw
    simpa using h
  have key : ∀ (k : Nat) (q : Nat × va_E), ws[k]? = some q → k < N ∧ q.1 = ad k := by
    intro k q hk
    have hkN : k < N := by rw [← hlen]; exact (List.getElem?_eq_some_iff.mp hk).1
    refine ⟨hkN, ?_⟩
    have h1 : (ws.map (·.1))[k]? = some q.1 := by rw [List.getElem?_map, hk]; rfl
    rw [hw, List.getElem?_map, List.getElem?_range hkN] at h1
    exact (Option.some.inj h1).symm
  refine ⟨fun i j p q hi hj e => ?_, fun k q hk => ?_⟩
  · obtain ⟨a1, b1⟩ := key i p hi
    obtain ⟨a2, b2⟩ := key j q hj
    exact hap i j a1 a2 (by rw [← b1, ← b2]; exact e)
  · obtain ⟨a1, b1⟩ := key k q hk
    exact ⟨k, a1, b1⟩
def jw_nest : Cond → Bool
  | .fieldLinkNest .. => true
  | .methodLinkNest .. => true
  | _ => false
theorem jw_nest_warm {w : Cond} (h : jw_nest w = true) {s U : State} (hW : s.WarmedH U.vm) (hZ : va_Nw w s) : va_Nw w U := by
  cases w with
  | fieldLinkNest a i b n d k => exact va_Nw.warmF hW hZ
  | methodLinkNest a i x k => exact va_Nw.warmM hW hZ
  | _ => cases h
theorem jw_nest_same {w : Cond} (h : jw_nest w = true) {u U : State} (e : u.vm = U.vm) (hZ : va_Nw w u) : va_Nw w U := by
  cases w with
  | fieldLinkNest a i b n d k => exact va_Nw.same rfl e hZ
  | methodLinkNest a i x k => exact va_Nw.same rfl e hZ
  | _ => cases h
/-- the state of a system: its cells, its classes, its nest's words -/
def jw_at (D : va_G) (cl : List vw_C) (tys : List (ClassId × FieldType)) (NW : List Cond) (w : RS → va_W) (σ : RS) (U : State) : Prop := va_P D cl (w σ) U.heap ∧ va_K D cl tys U ∧ ∀ x ∈ NW, va_Nw x U
theorem jw_at_calling {D : va_G} {cl : List vw_C} {tys : List (ClassId × FieldType)} {NW : List Cond} {w : RS → va_W} {σ : RS} (hNW : ∀ x ∈ NW, jw_nest x = true) {U : State} (g : JFrame) (mk : MethodId) (a : Array Value) (h : jw_at D cl tys NW w σ U) : jw_at D cl tys NW w σ (U.calling g mk a) := by
  obtain ⟨h1, h2, h3⟩ := h
  exact ⟨h1, va_K.moved (u := U) (U := U.calling g mk a) (Vm.Alike.refl U.vm) h2, fun x hx => jw_nest_same (u := U) (U := U.calling g mk a) (hNW x hx) rfl (h3 x hx)⟩
theorem jw_at_of {D : va_G} {cl : List vw_C} {tys : List (ClassId × FieldType)} {NW : List Cond} {w : RS → va_W} {σ : RS} (hNW : ∀ x ∈ NW, jw_nest x = true) {s U : State} {H : Heap} (hP : va_P D cl (w σ) H) (hK : va_K D cl tys s) (hN : ∀ x ∈ NW, va_Nw x s) (hU : U.heap = H) (hW : s.WarmedH U.vm) : jw_at D cl tys NW w σ U :=
  ⟨by rw [hU]; exact hP, va_K.moved hW.alike hK, fun x hx => jw_nest_warm (hNW x hx) hW (hN x hx)⟩
/-- contracts: the method returns what the function came to -/
def jm_i (l : Launch) (KW NW : List Cond) (D : va_G) (cl : List vw_C) (tys : List (ClassId × FieldType)) (A : Nat → Prop) (w : RS → va_W) (y : MethodName) (b : ByteArray) (nL : Nat) (ty : FieldType) (rm : Room) (av : List Value) (σ : RS) (res : Int32 × RS) : Prop :=
  Met l y (.code y b nL (some ty) :: KW) rm (va_Pc av (jw_at D cl tys NW w σ)) (va_Qi (fun r u => (r, u) = res) (fun u t => va_P D cl (w u) t.heap) A) 0 0 A
def jm_l (l : Launch) (KW NW : List Cond) (D : va_G) (cl : List vw_C) (tys : List (ClassId × FieldType)) (A : Nat → Prop) (w : RS → va_W) (y : MethodName) (b : ByteArray) (nL : Nat) (rm : Room) (av : List Value) (σ : RS) (res : Int64 × RS) : Prop :=
  Met l y (.code y b nL (some .long) :: KW) rm (va_Pc av (jw_at D cl tys NW w σ)) (va_Ql (fun r u => (r, u) = res) (fun u t => va_P D cl (w u) t.heap) A) 0 0 A
def jm_u (l : Launch) (KW NW : List Cond) (D : va_G) (cl : List vw_C) (tys : List (ClassId × FieldType)) (A : Nat → Prop) (w : RS → va_W) (y : MethodName) (b : ByteArray) (nL : Nat) (rm : Room) (av : List Value) (σ : RS) (res : RS) : Prop :=
  Met l y (.code y b nL none :: KW) rm (va_Pc av (jw_at D cl tys NW w σ)) (va_Qv (fun u => u = res) (fun u t => va_P D cl (w u) t.heap) A) 0 0 A
/-- what a walk of a method's body stands on -/
def jx (KW NW : List Cond) (D : va_G) (cl : List vw_C) (tys : List (ClassId × FieldType)) (cc : ByteArray) (ret : Option FieldType) (nL : Nat) (own : String) (p : Program) (s : State) (m : MethodId) (args : Array Value) (meth : Method) (c : Code) : Prop :=
  p.tables.exec = Jvm.exec ∧ c.code = cc ∧ c.maxLocals = nL ∧ s.vm.findClass own = some m.cls ∧ (∀ w ∈ KW, w.before args s = true) ∧ meth.sig.returnType = ret ∧ meth.locks = false ∧ va_K D cl tys s ∧ (∀ x ∈ NW, va_Nw x s)
section JM
variable {l : Launch} {KW NW : List Cond} {D : va_G} {cl : List vw_C} {tys : List (ClassId × FieldType)} {A : Nat → Prop} {w : RS → va_W} {y : MethodName} {b : ByteArray} {nL : Nat} {rm : Room} {av : List Value} {σ : RS}
theorem jm_i_of {ty : FieldType} {res : Int32 × RS} (hy : plainName y.cls = true) (hn : (lg_sl av).length ≤ nL)
    (body : ∀ (p : Program) (e : Env) (s : State) (m : MethodId) (below : List Frame) (meth : Method) (c : Code), jx KW NW D cl tys b (some ty) nL y.cls p s m av.toArray meth c → va_P D cl (w σ) s.heap → va_S A s.heap s.heap [] → ∀ ls : Array Slot, lv_has ls nL (lv_args 0 av) →
      W p l e rm s m av.toArray below meth c s.heap [] 0 0 (MQ below (va_Qi (fun r u => (r, u) = res) (fun u t => va_P D cl (w u) t.heap) A) av.toArray s 0 0 A) (F0 m 0 ls [])) : jm_i l KW NW D cl tys A w y b nL ty rm av σ res := by
  refine Met.ofW (cc := b) (maxL := nL) (ret := some ty) hy rfl ?_
  intro p e s m args below meth c s₁ B hml hv
  obtain ⟨rfl, hP, hK, hN⟩ := hv
  have hts := atoms_spec (ws := .code y b nL (some ty) :: KW) B.pre
  have hl := lv_entry av (n := nL) hn
  rw [lg_entry_eq]
  exact body p e s m below meth c ⟨B.exec, B.bytes, hml, findClass_of_methodNamed B.named, fun w h => hts w (List.mem_cons_of_mem _ h), B.returns, B.notSynchronized, hK, hN⟩ hP va_S.rf _ hl
theorem jm_l_of {res : Int64 × RS} (hy : plainName y.cls = true) (hn : (lg_sl av).length ≤ nL)
    (body : ∀ (p : Program) (e : Env) (s : State) (m : MethodId) (below : List Frame) (meth : Method) (c : Code), jx KW NW D cl tys b (some .long) nL y.cls p s m av.toArray meth c → va_P D cl (w σ) s.heap → va_S A s.heap s.heap [] → ∀ ls : Array Slot, lv_has ls nL (lv_args 0 av) →
      W p l e rm s m av.toArray below meth c s.heap [] 0 0 (MQ below (va_Ql (fun r u => (r, u) = res) (fun u t => va_P D cl (w u) t.heap) A) av.toArray s 0 0 A) (F0 m 0 ls [])) : jm_l l KW NW D cl tys A w y b nL rm av σ res := by
  refine Met.ofW (cc := b) (maxL := nL) (ret := some .long) hy rfl ?_
  intro p e s m args below meth c s₁ B hml hv
  obtain ⟨rfl, hP, hK, hN⟩ := hv
  have hts := atoms_spec (ws := .code y b nL (some .long) :: KW) B.pre
  have hl := lv_entry av (n := nL) hn
  rw [lg_entry_eq]
  exact body p e s m below meth c ⟨B.exec, B.bytes, hml, findClass_of_methodNamed B.named, fun w h => hts w (List.mem_cons_of_mem _ h), B.returns, B.notSynchronized, hK, hN⟩ hP va_S.rf _ hl
theorem jm_u_of {res : RS} (hy : plainName y.cls = true) (hn : (lg_sl av).length ≤ nL)
    (body : ∀ (p : Program) (e : Env) (s : State) (m : MethodId) (below : List Frame) (meth : Method) (c : Code), jx KW NW D cl tys b none nL y.cls p s m av.toArray meth c → va_P D cl (w σ) s.heap → va_S A s.heap s.heap [] → ∀ ls : Array Slot, lv_has ls nL (lv_args 0 av) →
      W p l e rm s m av.toArray below meth c s.heap [] 0 0 (MQ below (va_Qv (fun u => u = res) (fun u t => va_P D cl (w u) t.heap) A) av.toArray s 0 0 A) (F0 m 0 ls [])) : jm_u l KW NW D cl tys A w y b nL rm av σ res := by
  refine Met.ofW (cc := b) (maxL := nL) (ret := none) hy rfl ?_
  intro p e s m args below meth c s₁ B hml hv
  obtain ⟨rfl, hP, hK, hN⟩ := hv
  have hts := atoms_spec (ws := .code y b nL none :: KW) B.pre
  have hl := lv_entry av (n := nL) hn
  rw [lg_entry_eq]
  exact body p e s m below meth c ⟨B.exec, B.bytes, hml, findClass_of_methodNamed B.named, fun w h => hts w (List.mem_cons_of_mem _ h), B.returns, B.notSynchronized, hK, hN⟩ hP va_S.rf _ hl
end JM
theorem kn_v_e {α β : Type} {a : α} {F : α → Option β} {r : β} (h : kn_v a F = some r) : ∃ v, a = v ∧ F v = some r := ⟨a, rfl, h⟩
def kn_fix {α : Type} (z : α) (F : α → α) : Nat → α
  | 0 => z
  | n + 1 => F (kn_fix z F n)
theorem kn_fix_ind {α : Type} {G : α → Prop} {z : α} {F : α → α} (h0 : G z) (hs : ∀ k, G k → G (F k)) : ∀ n, G (kn_fix z F n)
  | 0 => h0
  | n + 1 => hs _ (kn_fix_ind h0 hs n)
/-- how often a loop goes round at the most (the pile of 'asked' goes round some 9,000 times, no other loop more than 216 times) -/
def FU : Nat := 20000
def kn_z {β : Type} (v : Int32) (k : Option β) : Option β := if v = 0 ∨ v = 1 then k else none
theorem kn_z_e {β : Type} {v : Int32} {k : Option β} {r : β} (h : kn_z v k = some r) : (v = 0 ∨ v = 1) ∧ k = some r := by
  unfold kn_z at h
  by_cases c : v = 0 ∨ v = 1
  · rw [if_pos c] at h; exact ⟨c, h⟩
  · rw [if_neg c] at h; cases h
/-! registers read behind a write -/
theorem rg_II (σ : RS) (k j : Nat) (v : Int32) : rg_I (rs_I σ k v) j = if j = k then v else rg_I σ j := rfl
theorem rg_IL (σ : RS) (k j : Nat) (v : Int64) : rg_I (rs_L σ k v) j = rg_I σ j := rfl
theorem rg_IA (σ : RS) (k j : Nat) (v : Nat → Int32) : rg_I (rs_A σ k v) j = rg_I σ j := rfl
theorem rg_IB (σ : RS) (k j : Nat) (v : Nat → Int64) : rg_I (rs_B σ k v) j = rg_I σ j := rfl
theorem rg_LI (σ : RS) (k j : Nat) (v : Int32) : rg_L (rs_I σ k v) j = rg_L σ j := rfl
theorem rg_LL (σ : RS) (k j : Nat) (v : Int64) : rg_L (rs_L σ k v) j = if j = k then v else rg_L σ j := rfl
theorem rg_LA (σ : RS) (k j : Nat) (v : Nat → Int32) : rg_L (rs_A σ k v) j = rg_L σ j := rfl
theorem rg_LB (σ : RS) (k j : Nat) (v : Nat → Int64) : rg_L (rs_B σ k v) j = rg_L σ j := rfl
theorem rg_AI (σ : RS) (k j : Nat) (v : Int32) : rg_A (rs_I σ k v) j = rg_A σ j := rfl
theorem rg_AL (σ : RS) (k j : Nat) (v : Int64) : rg_A (rs_L σ k v) j = rg_A σ j := rfl
theorem rg_AA (σ : RS) (k j : Nat) (v : Nat → Int32) : rg_A (rs_A σ k v) j = if j = k then v else rg_A σ j := rfl
theorem rg_AB (σ : RS) (k j : Nat) (v : Nat → Int64) : rg_A (rs_B σ k v) j = rg_A σ j := rfl
theorem rg_BI (σ : RS) (k j : Nat) (v : Int32) : rg_B (rs_I σ k v) j = rg_B σ j := rfl
theorem rg_BL (σ : RS) (k j : Nat) (v : Int64) : rg_B (rs_L σ k v) j = rg_B σ j := rfl
theorem rg_BA (σ : RS) (k j : Nat) (v : Nat → Int32) : rg_B (rs_A σ k v) j = rg_B σ j := rfl
theorem rg_BB (σ : RS) (k j : Nat) (v : Nat → Int64) : rg_B (rs_B σ k v) j = if j = k then v else rg_B σ j := rfl
section JR
variable {p : Program} {l : Launch} {e : Env} {R : Room} {s : State} {m : MethodId} {args : Array Value} {below : List Frame} {meth : Method} {c : Code} {H : Heap} {locs : List Loc} {cells slots : Nat} {Q : State → Prop}
variable {cc : ByteArray} {pc : Nat} {ls : Array Slot} {rest : List Value} {β : Type} {r : β} {X Y : Option β}

theorem jn_i {x : Int32} {F : Int32 → Option β} (hf : kn_v x F = some r) (kk : ∀ v : Int32, F v = some r → W p l e R s m args below meth c H locs cells slots Q (F0 m pc ls (.int v :: rest))) : W p l e R s m args below meth c H locs cells slots Q (F0 m pc ls (.int x :: rest)) := kk x hf
theorem jn_l {x : Int64} {F : Int64 → Option β} (hf : kn_v x F = some r) (kk : ∀ v : Int64, F v = some r → W p l e R s m args below meth c H locs cells slots Q (F0 m pc ls (.long v :: rest))) : W p l e R s m args below meth c H locs cells slots Q (F0 m pc ls (.long x :: rest)) := kk x hf
theorem jb_eq (hx : p.tables.exec = Jvm.exec) (hb : c.code = cc) {x : Int32} {off : Int} {tgt : Nat} (hf : (if x = 0 then X else Y) = some r) (hdg : decode cc pc = .ok (.ifCond .eq off, 3)) (ht : (pc : Int) + off = (tgt : Int)) (kt : X = some r → W p l e R s m args below meth c H locs cells slots Q (F0 m tgt ls rest)) (kf : Y = some r → W p l e R s m args below meth c H locs cells slots Q (F0 m (pc + 3) ls rest)) : W p l e R s m args below meth c H locs cells slots Q (F0 m pc ls (.int x :: rest)) := lv_if_eq hx hb hdg ht (fun h => kt (kn_t hf h)) (fun h => kf (kn_f hf h))
theorem jb_ne (hx : p.tables.exec = Jvm.exec) (hb : c.code = cc) {x : Int32} {off : Int} {tgt : Nat} (hf : (if x = 0 then X else Y) = some r) (hdg : decode cc pc = .ok (.ifCond .ne off, 3)) (ht : (pc : Int) + off = (tgt : Int)) (kt : Y = some r → W p l e R s m args below meth c H locs cells slots Q (F0 m tgt ls rest)) (kf : X = some r → W p l e R s m args below meth c H locs cells slots Q (F0 m (pc + 3) ls rest)) : W p l e R s m args below meth c H locs cells slots Q (F0 m pc ls (.int x :: rest)) := lv_if_ne hx hb hdg ht (fun h => kt (kn_f hf h)) (fun h => kf (kn_t hf h))
theorem jb_lt (hx : p.tables.exec = Jvm.exec) (hb : c.code = cc) {x : Int32} {off : Int} {tgt : Nat} (hf : (if x < 0 then X else Y) = some r) (hdg : decode cc pc = .ok (.ifCond .lt off, 3)) (ht : (pc : Int) + off = (tgt : Int)) (kt : X = some r → W p l e R s m args below meth c H locs cells slots Q (F0 m tgt ls rest)) (kf : Y = some r → W p l e R s m args below meth c H locs cells slots Q (F0 m (pc + 3) ls rest)) : W p l e R s m args below meth c H locs cells slots Q (F0 m pc ls (.int x :: rest)) := lv_if_lt hx hb hdg ht (fun h => kt (kn_t hf h)) (fun h => kf (kn_f hf h))
theorem jb_ge (hx : p.tables.exec = Jvm.exec) (hb : c.code = cc) {x : Int32} {off : Int} {tgt : Nat} (hf : (if 0 ≤ x then X else Y) = some r) (hdg : decode cc pc = .ok (.ifCond .ge off, 3)) (ht : (pc : Int) + off = (tgt : Int)) (kt : X = some r → W p l e R s m args below meth c H locs cells slots Q (F0 m tgt ls rest)) (kf : Y = some r → W p l e R s m args below meth c H locs cells slots Q (F0 m (pc + 3) ls rest)) : W p l e R s m args below meth c H locs cells slots Q (F0 m pc ls (.int x :: rest)) := lv_if_ge hx hb hdg ht (fun h => kt (kn_t hf h)) (fun h => kf (kn_f hf h))
theorem jb_gt (hx : p.tables.exec = Jvm.exec) (hb : c.code = cc) {x : Int32} {off : Int} {tgt : Nat} (hf : (if 0 < x then X else Y) = some r) (hdg : decode cc pc = .ok (.ifCond .gt off, 3)) (ht : (pc : Int) + off = (tgt : Int)) (kt : X = some r → W p l e R s m args below meth c H locs cells slots Q (F0 m tgt ls rest)) (kf : Y = some r → W p l e R s m args below meth c H locs cells slots Q (F0 m (pc + 3) ls rest)) : W p l e R s m args below meth c H locs cells slots Q (F0 m pc ls (.int x :: rest)) := lv_if_gt hx hb hdg ht (fun h => kt (kn_t hf h)) (fun h => kf (kn_f hf h))
theorem jb_le (hx : p.tables.exec = Jvm.exec) (hb : c.code = cc) {x : Int32} {off : Int} {tgt : Nat} (hf : (if x ≤ 0 then X else Y) = some r) (hdg : decode cc pc = .ok (.ifCond .le off, 3)) (ht : (pc : Int) + off = (tgt : Int)) (kt : X = some r → W p l e R s m args below meth c H locs cells slots Q (F0 m tgt ls rest)) (kf : Y = some r → W p l e R s m args below meth c H locs cells slots Q (F0 m (pc + 3) ls rest)) : W p l e R s m args below meth c H locs cells slots Q (F0 m pc ls (.int x :: rest)) := lv_if_le hx hb hdg ht (fun h => kt (kn_t hf h)) (fun h => kf (kn_f hf h))
theorem jc_eq (hx : p.tables.exec = Jvm.exec) (hb : c.code = cc) {x y : Int32} {off : Int} {tgt : Nat} (hf : (if x = y then X else Y) = some r) (hdg : decode cc pc = .ok (.if_icmp .eq off, 3)) (ht : (pc : Int) + off = (tgt : Int)) (kt : X = some r → W p l e R s m args below meth c H locs cells slots Q (F0 m tgt ls rest)) (kf : Y = some r → W p l e R s m args below meth c H locs cells slots Q (F0 m (pc + 3) ls rest)) : W p l e R s m args below meth c H locs cells slots Q (F0 m pc ls (.int y :: .int x :: rest)) := lv_icmp_eq hx hb hdg ht (fun h => kt (kn_t hf h)) (fun h => kf (kn_f hf h))
theorem jc_ne (hx : p.tables.exec = Jvm.exec) (hb : c.code = cc) {x y : Int32} {off : Int} {tgt : Nat} (hf : (if x = y then X else Y) = some r) (hdg : decode cc pc = .ok (.if_icmp .ne off, 3)) (ht : (pc : Int) + off = (tgt : Int)) (kt : Y = some r → W p l e R s m args below meth c H locs cells slots Q (F0 m tgt ls rest)) (kf : X = some r → W p l e R s m args below meth c H locs cells slots Q (F0 m (pc + 3) ls rest)) : W p l e R s m args below meth c H locs cells slots Q (F0 m pc ls (.int y :: .int x :: rest)) := lv_icmp_ne hx hb hdg ht (fun h => kt (kn_f hf h)) (fun h => kf (kn_t hf h))
theorem jc_lt (hx : p.tables.exec = Jvm.exec) (hb : c.code = cc) {x y : Int32} {off : Int} {tgt : Nat} (hf : (if x < y then X else Y) = some r) (hdg : decode cc pc = .ok (.if_icmp .lt off, 3)) (ht : (pc : Int) + off = (tgt : Int)) (kt : X = some r → W p l e R s m args below meth c H locs cells slots Q (F0 m tgt ls rest)) (kf : Y = some r → W p l e R s m args below meth c H locs cells slots Q (F0 m (pc + 3) ls rest)) : W p l e R s m args below meth c H locs cells slots Q (F0 m pc ls (.int y :: .int x :: rest)) := lv_icmp_lt hx hb hdg ht (fun h => kt (kn_t hf h)) (fun h => kf (kn_f hf h))
theorem jc_ge (hx : p.tables.exec = Jvm.exec) (hb : c.code = cc) {x y : Int32} {off : Int} {tgt : Nat} (hf : (if y ≤ x then X else Y) = some r) (hdg : decode cc pc = .ok (.if_icmp .ge off, 3)) (ht : (pc : Int) + off = (tgt : Int)) (kt : X = some r → W p l e R s m args below meth c H locs cells slots Q (F0 m tgt ls rest)) (kf : Y = some r → W p l e R s m args below meth c H locs cells slots Q (F0 m (pc + 3) ls rest)) : W p l e R s m args below meth c H locs cells slots Q (F0 m pc ls (.int y :: .int x :: rest)) := lv_icmp_ge hx hb hdg ht (fun h => kt (kn_t hf h)) (fun h => kf (kn_f hf h))
theorem jc_gt (hx : p.tables.exec = Jvm.exec) (hb : c.code = cc) {x y : Int32} {off : Int} {tgt : Nat} (hf : (if y < x then X else Y) = some r) (hdg : decode cc pc = .ok (.if_icmp .gt off, 3)) (ht : (pc : Int) + off = (tgt : Int)) (kt : X = some r → W p l e R s m args below meth c H locs cells slots Q (F0 m tgt ls rest)) (kf : Y = some r → W p l e R s m args below meth c H locs cells slots Q (F0 m (pc + 3) ls rest)) : W p l e R s m args below meth c H locs cells slots Q (F0 m pc ls (.int y :: .int x :: rest)) := lv_icmp_gt hx hb hdg ht (fun h => kt (kn_t hf h)) (fun h => kf (kn_f hf h))
theorem jc_le (hx : p.tables.exec = Jvm.exec) (hb : c.code = cc) {x y : Int32} {off : Int} {tgt : Nat} (hf : (if x ≤ y then X else Y) = some r) (hdg : decode cc pc = .ok (.if_icmp .le off, 3)) (ht : (pc : Int) + off = (tgt : Int)) (kt : X = some r → W p l e R s m args below meth c H locs cells slots Q (F0 m tgt ls rest)) (kf : Y = some r → W p l e R s m args below meth c H locs cells slots Q (F0 m (pc + 3) ls rest)) : W p l e R s m args below meth c H locs cells slots Q (F0 m pc ls (.int y :: .int x :: rest)) := lv_icmp_le hx hb hdg ht (fun h => kt (kn_t hf h)) (fun h => kf (kn_f hf h))
theorem jl_eq (hx : p.tables.exec = Jvm.exec) (hb : c.code = cc) {x y : Int64} {off : Int} {tgt : Nat} (hf : (if x = y then X else Y) = some r) (hd0 : decode cc pc = .ok (.lcmp, 1)) (hdg : decode cc (pc + 1) = .ok (.ifCond .eq off, 3)) (ht : ((pc + 1 : Nat) : Int) + off = (tgt : Int)) (kt : X = some r → W p l e R s m args below meth c H locs cells slots Q (F0 m tgt ls rest)) (kf : Y = some r → W p l e R s m args below meth c H locs cells slots Q (F0 m (pc + 1 + 3) ls rest)) : W p l e R s m args below meth c H locs cells slots Q (F0 m pc ls (.long y :: .long x :: rest)) := W.lcmp hx hb hd0 (lv_if_eq hx hb hdg ht (fun h => kt (kn_t hf ((lg_cmp_eq x y).mp h))) (fun h => kf (kn_f hf (fun q => h ((lg_cmp_eq x y).mpr q)))))
theorem jl_ne (hx : p.tables.exec = Jvm.exec) (hb : c.code = cc) {x y : Int64} {off : Int} {tgt : Nat} (hf : (if x = y then X else Y) = some r) (hd0 : decode cc pc = .ok (.lcmp, 1)) (hdg : decode cc (pc + 1) = .ok (.ifCond .ne off, 3)) (ht : ((pc + 1 : Nat) : Int) + off = (tgt : Int)) (kt : Y = some r → W p l e R s m args below meth c H locs cells slots Q (F0 m tgt ls rest)) (kf : X = some r → W p l e R s m args below meth c H locs cells slots Q (F0 m (pc + 1 + 3) ls rest)) : W p l e R s m args below meth c H locs cells slots Q (F0 m pc ls (.long y :: .long x :: rest)) := W.lcmp hx hb hd0 (lv_if_ne hx hb hdg ht (fun h => kt (kn_f hf (fun q => h ((lg_cmp_eq x y).mpr q)))) (fun h => kf (kn_t hf ((lg_cmp_eq x y).mp h))))
theorem jl_lt (hx : p.tables.exec = Jvm.exec) (hb : c.code = cc) {x y : Int64} {off : Int} {tgt : Nat} (hf : (if x < y then X else Y) = some r) (hd0 : decode cc pc = .ok (.lcmp, 1)) (hdg : decode cc (pc + 1) = .ok (.ifCond .lt off, 3)) (ht : ((pc + 1 : Nat) : Int) + off = (tgt : Int)) (kt : X = some r → W p l e R s m args below meth c H locs cells slots Q (F0 m tgt ls rest)) (kf : Y = some r → W p l e R s m args below meth c H locs cells slots Q (F0 m (pc + 1 + 3) ls rest)) : W p l e R s m args below meth c H locs cells slots Q (F0 m pc ls (.long y :: .long x :: rest)) := W.lcmp hx hb hd0 (lv_if_lt hx hb hdg ht (fun h => kt (kn_t hf ((lg_cmp_lt x y).mp h))) (fun h => kf (kn_f hf (fun q => h ((lg_cmp_lt x y).mpr q)))))
theorem jl_ge (hx : p.tables.exec = Jvm.exec) (hb : c.code = cc) {x y : Int64} {off : Int} {tgt : Nat} (hf : (if y ≤ x then X else Y) = some r) (hd0 : decode cc pc = .ok (.lcmp, 1)) (hdg : decode cc (pc + 1) = .ok (.ifCond .ge off, 3)) (ht : ((pc + 1 : Nat) : Int) + off = (tgt : Int)) (kt : X = some r → W p l e R s m args below meth c H locs cells slots Q (F0 m tgt ls rest)) (kf : Y = some r → W p l e R s m args below meth c H locs cells slots Q (F0 m (pc + 1 + 3) ls rest)) : W p l e R s m args below meth c H locs cells slots Q (F0 m pc ls (.long y :: .long x :: rest)) := W.lcmp hx hb hd0 (lv_if_ge hx hb hdg ht (fun h => kt (kn_t hf ((lg_cmp_ge x y).mp h))) (fun h => kf (kn_f hf (fun q => h ((lg_cmp_ge x y).mpr q)))))
theorem jl_gt (hx : p.tables.exec = Jvm.exec) (hb : c.code = cc) {x y : Int64} {off : Int} {tgt : Nat} (hf : (if y < x then X else Y) = some r) (hd0 : decode cc pc = .ok (.lcmp, 1)) (hdg : decode cc (pc + 1) = .ok (.ifCond .gt off, 3)) (ht : ((pc + 1 : Nat) : Int) + off = (tgt : Int)) (kt : X = some r → W p l e R s m args below meth c H locs cells slots Q (F0 m tgt ls rest)) (kf : Y = some r → W p l e R s m args below meth c H locs cells slots Q (F0 m (pc + 1 + 3) ls rest)) : W p l e R s m args below meth c H locs cells slots Q (F0 m pc ls (.long y :: .long x :: rest)) := W.lcmp hx hb hd0 (lv_if_gt hx hb hdg ht (fun h => kt (kn_t hf ((lg_cmp_gt x y).mp h))) (fun h => kf (kn_f hf (fun q => h ((lg_cmp_gt x y).mpr q)))))
theorem jl_le (hx : p.tables.exec = Jvm.exec) (hb : c.code = cc) {x y : Int64} {off : Int} {tgt : Nat} (hf : (if x ≤ y then X else Y) = some r) (hd0 : decode cc pc = .ok (.lcmp, 1)) (hdg : decode cc (pc + 1) = .ok (.ifCond .le off, 3)) (ht : ((pc + 1 : Nat) : Int) + off = (tgt : Int)) (kt : X = some r → W p l e R s m args below meth c H locs cells slots Q (F0 m tgt ls rest)) (kf : Y = some r → W p l e R s m args below meth c H locs cells slots Q (F0 m (pc + 1 + 3) ls rest)) : W p l e R s m args below meth c H locs cells slots Q (F0 m pc ls (.long y :: .long x :: rest)) := W.lcmp hx hb hd0 (lv_if_le hx hb hdg ht (fun h => kt (kn_t hf ((lg_cmp_le x y).mp h))) (fun h => kf (kn_f hf (fun q => h ((lg_cmp_le x y).mpr q)))))
theorem jd_idiv (hx : p.tables.exec = Jvm.exec) (hb : c.code = cc) {x y : Int32} (hf : kn_nz32 y X = some r) (hdg : decode cc pc = .ok (.idiv, 1)) (kk : X = some r → W p l e R s m args below meth c H locs cells slots Q (F0 m (pc + 1) ls (.int (x / y) :: rest))) : W p l e R s m args below meth c H locs cells slots Q (F0 m pc ls (.int y :: .int x :: rest)) := lv_idiv hx hb hdg (kn_nz32_e hf).1 (kk (kn_nz32_e hf).2)
theorem jd_irem (hx : p.tables.exec = Jvm.exec) (hb : c.code = cc) {x y : Int32} (hf : kn_nz32 y X = some r) (hdg : decode cc pc = .ok (.irem, 1)) (kk : X = some r → W p l e R s m args below meth c H locs cells slots Q (F0 m (pc + 1) ls (.int (x - x / y * y) :: rest))) : W p l e R s m args below meth c H locs cells slots Q (F0 m pc ls (.int y :: .int x :: rest)) := lv_irem hx hb hdg (kn_nz32_e hf).1 (kk (kn_nz32_e hf).2)
theorem jd_ldiv (hx : p.tables.exec = Jvm.exec) (hb : c.code = cc) {x y : Int64} (hf : kn_nz64 y X = some r) (hdg : decode cc pc = .ok (.ldiv, 1)) (kk : X = some r → W p l e R s m args below meth c H locs cells slots Q (F0 m (pc + 1) ls (.long (x / y) :: rest))) : W p l e R s m args below meth c H locs cells slots Q (F0 m pc ls (.long y :: .long x :: rest)) := lv_ldiv hx hb hdg (kn_nz64_e hf).1 (kk (kn_nz64_e hf).2)
theorem jd_lrem (hx : p.tables.exec = Jvm.exec) (hb : c.code = cc) {x y : Int64} (hf : kn_nz64 y X = some r) (hdg : decode cc pc = .ok (.lrem, 1)) (kk : X = some r → W p l e R s m args below meth c H locs cells slots Q (F0 m (pc + 1) ls (.long (x - x / y * y) :: rest))) : W p l e R s m args below meth c H locs cells slots Q (F0 m pc ls (.long y :: .long x :: rest)) := lv_lrem hx hb hdg (kn_nz64_e hf).1 (kk (kn_nz64_e hf).2)
end JR
section JA
variable {p : Program} {l : Launch} {e : Env} {R : Room} {s : State} {m : MethodId} {args : Array Value} {below : List Frame} {meth : Method} {c : Code} {H H0 : Heap} {locs : List Loc} {cells slots : Nat} {Q : State → Prop}
variable {cc : ByteArray} {pc : Nat} {ls : Array Slot} {rest : List Value} {β : Type} {r : β} {D : va_G} {cl : List vw_C} {tys : List (ClassId × FieldType)} {A : Nat → Prop} {w : RS → va_W} {σ σ1 : RS} {a : Nat}

theorem ja_ild (hx : p.tables.exec = Jvm.exec) (hb : c.code = cc) (hK : va_K D cl tys s) (hP : va_P D cl (w σ) H) (q0 t0 : Nat) {cA : ClassId} {n : Nat} {f : Nat → Int32} (ha : (w σ)[q0]? = some (a, .inl (cA, n, .inl f))) (ht : tys[t0]? = some (cA, .int)) {i : Int32} {F : Int32 → Option β} (hf : kn_ld f n i F = some r) (hdg : decode cc pc = .ok (.iaload, 1)) (kk : ∀ v : Int32, F v = some r → W p l e R s m args below meth c H locs cells slots Q (F0 m (pc + 1) ls (.int v :: rest))) : W p l e R s m args below meth c H locs cells slots Q (F0 m pc ls (.int i :: .ref a :: rest)) := va_iald hx hb hK hP q0 t0 ha ht (kn_ld_e hf).1 hdg (kk _ (kn_ld_e hf).2)
theorem ja_zld (hx : p.tables.exec = Jvm.exec) (hb : c.code = cc) (hK : va_K D cl tys s) (hP : va_P D cl (w σ) H) (q0 t0 : Nat) {cA : ClassId} {n : Nat} {f : Nat → Int32} (ha : (w σ)[q0]? = some (a, .inl (cA, n, .inl f))) (ht : tys[t0]? = some (cA, .boolean)) {i : Int32} {F : Int32 → Option β} (hf : kn_ld f n i F = some r) (hdg : decode cc pc = .ok (.baload, 1)) (kk : ∀ v : Int32, F v = some r → W p l e R s m args below meth c H locs cells slots Q (F0 m (pc + 1) ls (.int v :: rest))) : W p l e R s m args below meth c H locs cells slots Q (F0 m pc ls (.int i :: .ref a :: rest)) := va_zald hx hb hK hP q0 t0 ha ht (kn_ld_e hf).1 hdg (kk _ (kn_ld_e hf).2)
theorem ja_lld (hx : p.tables.exec = Jvm.exec) (hb : c.code = cc) (hK : va_K D cl tys s) (hP : va_P D cl (w σ) H) (q0 t0 : Nat) {cA : ClassId} {n : Nat} {f : Nat → Int64} (ha : (w σ)[q0]? = some (a, .inl (cA, n, .inr (.inl f)))) (ht : tys[t0]? = some (cA, .long)) {i : Int32} {F : Int64 → Option β} (hf : kn_ld f n i F = some r) (hdg : decode cc pc = .ok (.laload, 1)) (kk : ∀ v : Int64, F v = some r → W p l e R s m args below meth c H locs cells slots Q (F0 m (pc + 1) ls (.long v :: rest))) : W p l e R s m args below meth c H locs cells slots Q (F0 m pc ls (.int i :: .ref a :: rest)) := va_lald hx hb hK hP q0 t0 ha ht (kn_ld_e hf).1 hdg (kk _ (kn_ld_e hf).2)
theorem ja_ist (hx : p.tables.exec = Jvm.exec) (hb : c.code = cc) (hK : va_K D cl tys s) (hD : va_D A (w σ)) (hP : va_P D cl (w σ) H) (hS : va_S A H0 H locs) (q0 t0 : Nat) {cA : ClassId} {n : Nat} {f : Nat → Int32} (ha : (w σ)[q0]? = some (a, .inl (cA, n, .inl f))) (ht : tys[t0]? = some (cA, .int)) {i : Int32} {x : Int32} (hw : (w σ).set q0 (a, .inl (cA, n, .inl (upd f i.toNatClampNeg x))) = w σ1) {F : RS → Option β} (hf : kn_st σ1 n i F = some r) (hdg : decode cc pc = .ok (.iastore, 1)) (kk : ∀ (σ2 : RS) (H1 : Heap) (locs1 : List Loc), va_P D cl (w σ2) H1 → va_S A H0 H1 locs1 → F σ2 = some r → W p l e R s m args below meth c H1 locs1 cells slots Q (F0 m (pc + 1) ls rest)) : W p l e R s m args below meth c H locs cells slots Q (F0 m pc ls (.int x :: .int i :: .ref a :: rest)) := va_iast hx hb hK hP hD hS q0 t0 ha ht (kn_st_e hf).1 hdg (fun H1 locs1 h1 _ h3 => kk σ1 H1 locs1 (hw ▸ h1) h3 (kn_st_e hf).2)
theorem ja_lst (hx : p.tables.exec = Jvm.exec) (hb : c.code = cc) (hK : va_K D cl tys s) (hD : va_D A (w σ)) (hP : va_P D cl (w σ) H) (hS : va_S A H0 H locs) (q0 t0 : Nat) {cA : ClassId} {n : Nat} {f : Nat → Int64} (ha : (w σ)[q0]? = some (a, .inl (cA, n, .inr (.inl f)))) (ht : tys[t0]? = some (cA, .long)) {i : Int32} {x : Int64} (hw : (w σ).set q0 (a, .inl (cA, n, .inr (.inl (vp_updL f i.toNatClampNeg x)))) = w σ1) {F : RS → Option β} (hf : kn_st σ1 n i F = some r) (hdg : decode cc pc = .ok (.lastore, 1)) (kk : ∀ (σ2 : RS) (H1 : Heap) (locs1 : List Loc), va_P D cl (w σ2) H1 → va_S A H0 H1 locs1 → F σ2 = some r → W p l e R s m args below meth c H1 locs1 cells slots Q (F0 m (pc + 1) ls rest)) : W p l e R s m args below meth c H locs cells slots Q (F0 m pc ls (.long x :: .int i :: .ref a :: rest)) := va_last hx hb hK hP hD hS q0 t0 ha ht (kn_st_e hf).1 hdg (fun H1 locs1 h1 _ h3 => kk σ1 H1 locs1 (hw ▸ h1) h3 (kn_st_e hf).2)
theorem ja_zst (hx : p.tables.exec = Jvm.exec) (hb : c.code = cc) (hK : va_K D cl tys s) (hD : va_D A (w σ)) (hP : va_P D cl (w σ) H) (hS : va_S A H0 H locs) (q0 t0 : Nat) {cA : ClassId} {n : Nat} {f : Nat → Int32} (ha : (w σ)[q0]? = some (a, .inl (cA, n, .inl f))) (ht : tys[t0]? = some (cA, .boolean)) {i : Int32} {x x1 : Int32} (hx1 : vp_nar .boolean x = x1) (hw : (w σ).set q0 (a, .inl (cA, n, .inl (upd f i.toNatClampNeg x1))) = w σ1) {F : RS → Option β} (hf : kn_st σ1 n i F = some r) (hdg : decode cc pc = .ok (.bastore, 1)) (kk : ∀ (σ2 : RS) (H1 : Heap) (locs1 : List Loc), va_P D cl (w σ2) H1 → va_S A H0 H1 locs1 → F σ2 = some r → W p l e R s m args below meth c H1 locs1 cells slots Q (F0 m (pc + 1) ls rest)) : W p l e R s m args below meth c H locs cells slots Q (F0 m pc ls (.int x :: .int i :: .ref a :: rest)) := by
  subst hx1
  exact va_zast hx hb hK hP hD hS q0 t0 ha ht (kn_st_e hf).1 hdg (fun H1 locs1 h1 _ h3 => kk σ1 H1 locs1 (hw ▸ h1) h3 (kn_st_e hf).2)
theorem ja_cpl (hx : p.tables.exec = Jvm.exec) (hb : c.code = cc) (hml : c.maxLocals = ls.size) {own : String} {index : Nat} (hown : s.vm.findClass own = some m.cls) (hlink : (Cond.methodLink own index arraycopyName).before args s = true) (hnat : (Cond.native arraycopyName).before args s = true) (hstat : (Cond.static arraycopyName).before args s = true) (hini : (Cond.initialized "java/lang/System").before args s = true) (hK : va_K D cl tys s) (hD : va_D A (w σ)) (hP : va_P D cl (w σ) H) (hS : va_S A H0 H locs) (q0 q1 t0 : Nat) {a0 : Nat} {c0 : ClassId} {n0 n1 : Nat} {f g : Nat → Int64} (ha0 : (w σ)[q0]? = some (a0, .inl (c0, n0, .inr (.inl f)))) (ha1 : (w σ)[q1]? = some (a, .inl (c0, n1, .inr (.inl g)))) (ht0 : tys[t0]? = some (c0, .long)) {sp dp n : Int32} (hw : (w σ).set q1 (a, .inl (c0, n1, .inr (.inl (va_cpy f g sp.toNatClampNeg dp.toNatClampNeg n.toNatClampNeg)))) = w σ1) {F : RS → Option β} (hf : kn_cp n0 n1 sp dp n σ1 F = some r) (hframes : 1 ≤ R.frames) (hlocals : (rest.map fun v => v.category).sum + (nativeFrameWords "java/lang/System" "arraycopy" 5 + 11) ≤ R.locals) (hdg : decode cc pc = .ok (.invokestatic index, 3)) (kk : ∀ (σ2 : RS) (H1 : Heap) (locs1 : List Loc), va_P D cl (w σ2) H1 → va_S A H0 H1 locs1 → F σ2 = some r → W p l e R s m args below meth c H1 locs1 cells slots Q (F0 m (pc + 3) ls rest)) : W p l e R s m args below meth c H locs cells slots Q (F0 m pc ls (.int n :: .int dp :: .ref a :: .int sp :: .ref a0 :: rest)) := by
  obtain ⟨⟨h1, h2, h3, h4, h5⟩, h6⟩ := kn_cp_e hf
  exact va_copyl hx hb hml hown hlink hnat hstat hini hK hP hD hS q0 q1 t0 t0 ha0 ha1 ht0 ht0 rfl h1 h2 h3 h4 h5 (fun _ _ => rfl) hframes hlocals hdg (fun H1 locs1 g1 _ g3 => kk σ1 H1 locs1 (hw ▸ g1) g3 h6)
theorem ja_cpz (hx : p.tables.exec = Jvm.exec) (hb : c.code = cc) (hml : c.maxLocals = ls.size) {own : String} {index : Nat} (hown : s.vm.findClass own = some m.cls) (hlink : (Cond.methodLink own index arraycopyName).before args s = true) (hnat : (Cond.native arraycopyName).before args s = true) (hstat : (Cond.static arraycopyName).before args s = true) (hini : (Cond.initialized "java/lang/System").before args s = true) (hK : va_K D cl tys s) (hD : va_D A (w σ)) (hP : va_P D cl (w σ) H) (hS : va_S A H0 H locs) (q0 q1 t0 : Nat) {a0 : Nat} {c0 : ClassId} {n0 n1 : Nat} {f g : Nat → Int32} (ha0 : (w σ)[q0]? = some (a0, .inl (c0, n0, .inl f))) (ha1 : (w σ)[q1]? = some (a, .inl (c0, n1, .inl g))) (ht0 : tys[t0]? = some (c0, .boolean)) {sp dp n : Int32} (hw : (w σ).set q1 (a, .inl (c0, n1, .inl (va_cpy f g sp.toNatClampNeg dp.toNatClampNeg n.toNatClampNeg))) = w σ1) {F : RS → Option β} (hf : kn_cz f n0 n1 sp dp n σ1 F = some r) (hframes : 1 ≤ R.frames) (hlocals : (rest.map fun v => v.category).sum + (nativeFrameWords "java/lang/System" "arraycopy" 5 + 11) ≤ R.locals) (hdg : decode cc pc = .ok (.invokestatic index, 3)) (kk : ∀ (σ2 : RS) (H1 : Heap) (locs1 : List Loc), va_P D cl (w σ2) H1 → va_S A H0 H1 locs1 → F σ2 = some r → W p l e R s m args below meth c H1 locs1 cells slots Q (F0 m (pc + 3) ls rest)) : W p l e R s m args below meth c H locs cells slots Q (F0 m pc ls (.int n :: .int dp :: .ref a :: .int sp :: .ref a0 :: rest)) := by
  obtain ⟨h0, ⟨h1, h2, h3, h4, h5⟩, h6⟩ := kn_cz_e hf
  exact va_copyi hx hb hml hown hlink hnat hstat hini hK hP hD hS q0 q1 t0 t0 ha0 ha1 ht0 ht0 rfl h1 h2 h3 h4 h5 h0 hframes hlocals hdg (fun H1 locs1 g1 _ g3 => kk σ1 H1 locs1 (hw ▸ g1) g3 h6)
theorem jr_i (hx : p.tables.exec = Jvm.exec) (hb : c.code = cc) {ty : FieldType} (hr : meth.sig.returnType = some ty) (hlocks : meth.locks = false) {v : Int32} {res : Int32 × RS} (hf : some (v, σ) = some res) (hn : narrow ty (.int v) = .int v) (hP : va_P D cl (w σ) H) (hS : va_S A s.heap H locs) (hdg : decode cc pc = .ok (.ireturn, 1)) : W p l e R s m args below meth c H locs 0 0 (MQ below (va_Qi (fun r u => (r, u) = res) (fun u t => va_P D cl (w u) t.heap) A) args s 0 0 A) (F0 m pc ls [.int v]) := by
  cases hf
  exact W.zret hx hb hr hn (fun t ht _ => ⟨⟨v, σ, rfl, rfl, by subst ht; exact hP⟩, hS.F ht⟩) hS.2.2 hdg hlocks
theorem jr_z (hx : p.tables.exec = Jvm.exec) (hb : c.code = cc) (hr : meth.sig.returnType = some .boolean) (hlocks : meth.locks = false) {v : Int32} {res : Int32 × RS} (hf : kn_z v (some (v, σ)) = some res) (hP : va_P D cl (w σ) H) (hS : va_S A s.heap H locs) (hdg : decode cc pc = .ok (.ireturn, 1)) : W p l e R s m args below meth c H locs 0 0 (MQ below (va_Qi (fun r u => (r, u) = res) (fun u t => va_P D cl (w u) t.heap) A) args s 0 0 A) (F0 m pc ls [.int v]) := jr_i hx hb hr hlocks (kn_z_e hf).2 (by rcases (kn_z_e hf).1 with h | h <;> rw [h] <;> rfl) hP hS hdg
theorem jr_l (hx : p.tables.exec = Jvm.exec) (hb : c.code = cc) (hr : meth.sig.returnType = some .long) (hlocks : meth.locks = false) {v : Int64} {res : Int64 × RS} (hf : some (v, σ) = some res) (hP : va_P D cl (w σ) H) (hS : va_S A s.heap H locs) (hdg : decode cc pc = .ok (.lreturn, 1)) : W p l e R s m args below meth c H locs 0 0 (MQ below (va_Ql (fun r u => (r, u) = res) (fun u t => va_P D cl (w u) t.heap) A) args s 0 0 A) (F0 m pc ls [.long v]) := by
  cases hf
  exact W.lret hx hb hr (fun t ht _ => ⟨⟨v, σ, rfl, rfl, by subst ht; exact hP⟩, hS.F ht⟩) hS.2.2 hdg hlocks
theorem jr_u (hx : p.tables.exec = Jvm.exec) (hb : c.code = cc) (hr : meth.sig.returnType = none) (hlocks : meth.locks = false) {res : RS} (hf : some σ = some res) (hP : va_P D cl (w σ) H) (hS : va_S A s.heap H locs) (hdg : decode cc pc = .ok (.return_, 1)) : W p l e R s m args below meth c H locs 0 0 (MQ below (va_Qv (fun u => u = res) (fun u t => va_P D cl (w u) t.heap) A) args s 0 0 A) (F0 m pc ls []) := by
  cases hf
  exact W.vret hx hb hr (fun t ht _ => ⟨⟨σ, rfl, rfl, by subst ht; exact hP⟩, hS.F ht⟩) hS.2.2 hdg hlocks
theorem jk_i {st0 : List Value} {a0 : Array Value} {o : Option (Int32 × RS)} {F : Int32 → RS → Option β} (hf : kn_i o F = some r) (hr : ∀ res, o = some res → va_Run p l e R s m args below meth c H locs cells slots 0 0 (F0 m pc ls st0) rest (va_Qi (fun r u => (r, u) = res) (fun u t => va_P D cl (w u) t.heap) A a0) A) (hS : va_S A H0 H locs) (kk : ∀ (v : Int32) (σ2 : RS) (H1 : Heap) (locs1 : List Loc), va_P D cl (w σ2) H1 → va_S A H0 H1 locs1 → F v σ2 = some r → W p l e R s m args below meth c H1 locs1 cells slots Q (F0 m (pc + 3) ls (.int v :: rest))) : W p l e R s m args below meth c H locs cells slots Q (F0 m pc ls st0) := by
  obtain ⟨v, σ2, h1, h2⟩ := kn_i_e hf
  refine va_calli (hr _ h1) hS (fun q _ h => h) (fun q h => h) (fun r' u t H1 locs1 ht _ hw hB _ _ hS1 => ?_)
  cases hw
  exact kk v σ2 H1 locs1 (by rw [← ht]; exact hB) hS1 h2
theorem jk_l {st0 : List Value} {a0 : Array Value} {o : Option (Int64 × RS)} {F : Int64 → RS → Option β} (hf : kn_l o F = some r) (hr : ∀ res, o = some res → va_Run p l e R s m args below meth c H locs cells slots 0 0 (F0 m pc ls st0) rest (va_Ql (fun r u => (r, u) = res) (fun u t => va_P D cl (w u) t.heap) A a0) A) (hS : va_S A H0 H locs) (kk : ∀ (v : Int64) (σ2 : RS) (H1 : Heap) (locs1 : List Loc), va_P D cl (w σ2) H1 → va_S A H0 H1 locs1 → F v σ2 = some r → W p l e R s m args below meth c H1 locs1 cells slots Q (F0 m (pc + 3) ls (.long v :: rest))) : W p l e R s m args below meth c H locs cells slots Q (F0 m pc ls st0) := by
  obtain ⟨v, σ2, h1, h2⟩ := kn_l_e hf
  refine va_calll (hr _ h1) hS (fun q _ h => h) (fun q h => h) (fun r' u t H1 locs1 ht _ hw hB _ _ hS1 => ?_)
  cases hw
  exact kk v σ2 H1 locs1 (by rw [← ht]; exact hB) hS1 h2
theorem jk_u {st0 : List Value} {a0 : Array Value} {o : Option RS} {F : RS → Option β} (hf : kn_u o F = some r) (hr : ∀ res, o = some res → va_Run p l e R s m args below meth c H locs cells slots 0 0 (F0 m pc ls st0) rest (va_Qv (fun u => u = res) (fun u t => va_P D cl (w u) t.heap) A a0) A) (hS : va_S A H0 H locs) (kk : ∀ (σ2 : RS) (H1 : Heap) (locs1 : List Loc), va_P D cl (w σ2) H1 → va_S A H0 H1 locs1 → F σ2 = some r → W p l e R s m args below meth c H1 locs1 cells slots Q (F0 m (pc + 3) ls rest)) : W p l e R s m args below meth c H locs cells slots Q (F0 m pc ls st0) := by
  obtain ⟨σ2, h1, h2⟩ := kn_u_e hf
  refine va_callv (hr _ h1) hS (fun q _ h => h) (fun q h => h) (fun u t H1 locs1 ht _ hw hB _ _ hS1 => ?_)
  cases hw
  exact kk σ2 H1 locs1 (by rw [← ht]; exact hB) hS1 h2
end JA
section JV
variable {p : Program} {l : Launch} {e : Env} {R : Room} {s : State} {m : MethodId} {args : Array Value} {below : List Frame} {meth : Method} {c : Code} {H : Heap} {locs : List Loc}
variable {cc : ByteArray} {pc nL : Nat} {ls : Array Slot} {rest st0 As : List Value} {D : va_G} {cl : List vw_C} {tys : List (ClassId × FieldType)} {A : Nat → Prop} {w : RS → va_W} {σ : RS} {a : Nat} {KW NW : List Cond} {own : String}
theorem jg_in {q : Cond} (hG : ∀ w ∈ KW, goodWord w = true) (hq : q ∈ KW) : GoodIn KW (q :: KW) := by
  intro w hw
  rcases List.mem_cons.mp hw with rfl | h
  · exact ⟨hq, good_of_word (hG _ hq)⟩
  · exact ⟨h, good_of_word (hG _ h)⟩
theorem jw_blind {av : List Value} (hNW : ∀ x ∈ NW, jw_nest x = true) : FrameBlind (va_Pc av (jw_at D cl tys NW w σ)) := fun a U g mk h => ⟨h.1, jw_at_calling hNW g mk a h.2⟩
/-- a call of a method of an object of the world, by a link of the class's own or a public one -/
theorem jv_run (hx : p.tables.exec = Jvm.exec) (hb : c.code = cc) (hml : c.maxLocals = nL) (hown : s.vm.findClass own = some m.cls) (hts : ∀ w ∈ KW, w.before args s = true) (hK : va_K D cl tys s) (hN : ∀ x ∈ NW, va_Nw x s) (hG : ∀ w ∈ KW, goodWord w = true) (hNW : ∀ x ∈ NW, jw_nest x = true) (hls : ls.size = nL)
    {y : MethodName} {b' : ByteArray} {nL' idx n ci q0 : Nat} {ret' : Option FieldType} {rm : Room} {Qc : Array Value → State → Outcome → State → Prop} {vc : vw_C} {fs : List Value}
    (hM : Met l y (.code y b' nL' ret' :: KW) rm (va_Pc (.ref a :: As) (jw_at D cl tys NW w σ)) Qc 0 0 A) (hP : va_P D cl (w σ) H) (hc : cl[ci]? = some vc) (he : (w σ)[q0]? = some (a, .inr (ci, fs))) (hvc : vc.1 = y.cls)
    (hcode : Cond.code y b' nL' ret' ∈ KW) (hlink : Cond.methodLink own idx y ∈ KW) (hinst : Cond.instanceMethod y ∈ KW) (hsel : Cond.selects y.cls y y ∈ KW) (hini : Cond.initialized y.cls ∈ KW) (hrm : rm.cells = 0 ∧ rm.slots = 0)
    (hd : y.cls ≠ "java/lang/invoke/MethodHandle" ∧ y.cls ≠ "java/lang/invoke/VarHandle" ∧ (parseMethodDescriptor y.desc).map (fun d => d.parameters.length) = some n) (hn : As.length = n) (hR : rm.frames + 1 ≤ R.frames ∧ 8 + (nL' + 11) + rm.locals ≤ R.locals)
    (hst : st0 = As.reverse ++ .ref a :: rest) (hW : (rest.map fun v => v.category).sum ≤ 8) (hdg : decode cc pc = .ok (.invokevirtual idx, 3)) :
    va_Run p l e R s m args below meth c H locs 0 0 0 0 (F0 m pc ls st0) rest (Qc (Value.ref a :: As).toArray) A :=
  va_runV (C := y.cls) ⟨hx, hb, hml, hown, hts⟩ hM ⟨callB_of n hts (jg_in hG hcode) rfl hrm.1 hrm.2 (hts _ hini) (hts _ hlink) hd hR, hts _ hinst, hts _ hsel⟩
    ⟨jw_blind hNW, by have h := va_recv hK hP hc he; rw [hvc] at h; exact h, fun U hU hW => ⟨rfl, jw_at_of hNW hP hK hN hU hW⟩⟩ rfl hn hls hst (lv_room hW) hdg ⟨Nat.zero_le _, Nat.zero_le _⟩
/-- the same by a nest mate's link -/
theorem jv_runN (hx : p.tables.exec = Jvm.exec) (hb : c.code = cc) (hml : c.maxLocals = nL) (hown : s.vm.findClass own = some m.cls) (hts : ∀ w ∈ KW, w.before args s = true) (hK : va_K D cl tys s) (hN : ∀ x ∈ NW, va_Nw x s) (hG : ∀ w ∈ KW, goodWord w = true) (hNW : ∀ x ∈ NW, jw_nest x = true) (hls : ls.size = nL)
    {y : MethodName} {b' : ByteArray} {nL' idx n ci q0 : Nat} {ret' : Option FieldType} {rm : Room} {Qc : Array Value → State → Outcome → State → Prop} {vc : vw_C} {fs : List Value} {host : String}
    (hM : Met l y (.code y b' nL' ret' :: KW) rm (va_Pc (.ref a :: As) (jw_at D cl tys NW w σ)) Qc 0 0 A) (hP : va_P D cl (w σ) H) (hc : cl[ci]? = some vc) (he : (w σ)[q0]? = some (a, .inr (ci, fs))) (hvc : vc.1 = y.cls)
    (hcode : Cond.code y b' nL' ret' ∈ KW) (hlink : Cond.methodLinkNest own idx y host ∈ NW) (hinst : Cond.instanceMethod y ∈ KW) (hsel : Cond.selects y.cls y y ∈ KW) (hini : Cond.initialized y.cls ∈ KW) (hrm : rm.cells = 0 ∧ rm.slots = 0)
    (hd : y.cls ≠ "java/lang/invoke/MethodHandle" ∧ y.cls ≠ "java/lang/invoke/VarHandle" ∧ (parseMethodDescriptor y.desc).map (fun d => d.parameters.length) = some n) (hn : As.length = n) (hR : rm.frames + 1 ≤ R.frames ∧ 8 + (nL' + 11) + rm.locals ≤ R.locals)
    (hst : st0 = As.reverse ++ .ref a :: rest) (hW : (rest.map fun v => v.category).sum ≤ 8) (hdg : decode cc pc = .ok (.invokevirtual idx, 3)) :
    va_Run p l e R s m args below meth c H locs 0 0 0 0 (F0 m pc ls st0) rest (Qc (Value.ref a :: As).toArray) A :=
  va_runVN (C := y.cls) ⟨hx, hb, hml, hown, hts⟩ hM ⟨va_cnB n hts (jg_in hG hcode) rfl hrm.1 hrm.2 (hN _ hlink) (hts _ hini) hd hR, hts _ hinst, hts _ hsel⟩
    ⟨jw_blind hNW, by have h := va_recv hK hP hc he; rw [hvc] at h; exact h, fun U hU hW => ⟨rfl, jw_at_of hNW hP hK hN hU hW⟩⟩ rfl hn hls hst (lv_room hW) hdg ⟨Nat.zero_le _, Nat.zero_le _⟩
/-- a static method -/
theorem js_run (hx : p.tables.exec = Jvm.exec) (hb : c.code = cc) (hml : c.maxLocals = nL) (hown : s.vm.findClass own = some m.cls) (hts : ∀ w ∈ KW, w.before args s = true) (hK : va_K D cl tys s) (hN : ∀ x ∈ NW, va_Nw x s) (hG : ∀ w ∈ KW, goodWord w = true) (hNW : ∀ x ∈ NW, jw_nest x = true) (hls : ls.size = nL)
    {y : MethodName} {b' : ByteArray} {nL' idx n : Nat} {ret' : Option FieldType} {rm : Room} {Qc : Array Value → State → Outcome → State → Prop}
    (hM : Met l y (.code y b' nL' ret' :: KW) rm (va_Pc As (jw_at D cl tys NW w σ)) Qc 0 0 A) (hP : va_P D cl (w σ) H)
    (hcode : Cond.code y b' nL' ret' ∈ KW) (hlink : Cond.methodLink own idx y ∈ KW) (hstat : Cond.static y ∈ KW) (hini : Cond.initialized y.cls ∈ KW) (hrm : rm.cells = 0 ∧ rm.slots = 0)
    (hd : y.cls ≠ "java/lang/invoke/MethodHandle" ∧ y.cls ≠ "java/lang/invoke/VarHandle" ∧ (parseMethodDescriptor y.desc).map (fun d => d.parameters.length) = some n) (hn : As.length = n) (hR : rm.frames + 1 ≤ R.frames ∧ 8 + (nL' + 11) + rm.locals ≤ R.locals)
    (hst : st0 = As.reverse ++ rest) (hW : (rest.map fun v => v.category).sum ≤ 8) (hdg : decode cc pc = .ok (.invokestatic idx, 3)) :
    va_Run p l e R s m args below meth c H locs 0 0 0 0 (F0 m pc ls st0) rest (Qc As.toArray) A :=
  va_runS ⟨hx, hb, hml, hown, hts⟩ hM ⟨callB_of n hts (jg_in hG hcode) rfl hrm.1 hrm.2 (hts _ hini) (hts _ hlink) hd hR, hts _ hstat⟩
    ⟨jw_blind hNW, fun U hU hW => ⟨rfl, jw_at_of hNW hP hK hN hU hW⟩⟩ rfl hn hls hst (lv_room hW) hdg ⟨Nat.zero_le _, Nat.zero_le _⟩
theorem js_runN (hx : p.tables.exec = Jvm.exec) (hb : c.code = cc) (hml : c.maxLocals = nL) (hown : s.vm.findClass own = some m.cls) (hts : ∀ w ∈ KW, w.before args s = true) (hK : va_K D cl tys s) (hN : ∀ x ∈ NW, va_Nw x s) (hG : ∀ w ∈ KW, goodWord w = true) (hNW : ∀ x ∈ NW, jw_nest x = true) (hls : ls.size = nL)
    {y : MethodName} {b' : ByteArray} {nL' idx n : Nat} {ret' : Option FieldType} {rm : Room} {Qc : Array Value → State → Outcome → State → Prop} {host : String}
    (hM : Met l y (.code y b' nL' ret' :: KW) rm (va_Pc As (jw_at D cl tys NW w σ)) Qc 0 0 A) (hP : va_P D cl (w σ) H)
    (hcode : Cond.code y b' nL' ret' ∈ KW) (hlink : Cond.methodLinkNest own idx y host ∈ NW) (hstat : Cond.static y ∈ KW) (hini : Cond.initialized y.cls ∈ KW) (hrm : rm.cells = 0 ∧ rm.slots = 0)
    (hd : y.cls ≠ "java/lang/invoke/MethodHandle" ∧ y.cls ≠ "java/lang/invoke/VarHandle" ∧ (parseMethodDescriptor y.desc).map (fun d => d.parameters.length) = some n) (hn : As.length = n) (hR : rm.frames + 1 ≤ R.frames ∧ 8 + (nL' + 11) + rm.locals ≤ R.locals)
    (hst : st0 = As.reverse ++ rest) (hW : (rest.map fun v => v.category).sum ≤ 8) (hdg : decode cc pc = .ok (.invokestatic idx, 3)) :
    va_Run p l e R s m args below meth c H locs 0 0 0 0 (F0 m pc ls st0) rest (Qc As.toArray) A :=
  va_runSN ⟨hx, hb, hml, hown, hts⟩ hM ⟨va_cnB n hts (jg_in hG hcode) rfl hrm.1 hrm.2 (hN _ hlink) (hts _ hini) hd hR, hts _ hstat, trivial⟩
    ⟨jw_blind hNW, fun U hU hW => ⟨rfl, jw_at_of hNW hP hK hN hU hW⟩⟩ rfl hn hls hst (lv_room hW) hdg ⟨Nat.zero_le _, Nat.zero_le _⟩
end JV
/-! the tables' words that a call keeps, and the nest's -/
def KW : List Cond := lw_tbl.filter goodWord
def NW : List Cond := lw_tbl.filter jw_nest
theorem kw_of {i : Nat} {w : Cond} (h : lw_tbl[i]? = some w) (hg : goodWord w = true) : w ∈ KW := List.mem_filter.mpr ⟨List.mem_of_getElem? h, hg⟩
theorem nw_of {i : Nat} {w : Cond} (h : lw_tbl[i]? = some w) (hg : jw_nest w = true) : w ∈ NW := List.mem_filter.mpr ⟨List.mem_of_getElem? h, hg⟩
theorem c_hG : ∀ w ∈ KW, goodWord w = true := fun _ h => (List.mem_filter.mp h).2
theorem c_hNW : ∀ w ∈ NW, jw_nest w = true := fun _ h => (List.mem_filter.mp h).2
theorem r_hG : ∀ w ∈ KW, goodWord w = true := c_hG
theorem r_hNW : ∀ w ∈ NW, jw_nest w = true := c_hNW
theorem kw_all {ws : List Cond} (ps : List Nat) (hp : ws = ps.filterMap (fun i => lw_tbl[i]?)) (h : ws.all goodWord = true) : ∀ w ∈ ws, w ∈ KW := by
  intro w hw
  have h1 := List.all_eq_true.mp h w hw
  rw [hp] at hw
  obtain ⟨i, -, hi⟩ := List.mem_filterMap.mp hw
  exact kw_of hi h1
abbrev jtys (kA : Nat → ClassId) : List (ClassId × FieldType) := [(kA 0, .int), (kA 1, .long), (kA 2, .boolean), (kA 3, .object RX4)]
abbrev jxc (cc : ByteArray) (ret : Option FieldType) (nL : Nat) (own : String) (p : Program) (s : State) (m : MethodId) (args : Array Value) (meth : Method) (c : Code) (dC : Nat → ClassId) (dI : Nat → Nat → Nat) (kA : Nat → ClassId) : Prop := jx KW NW (dC, dI) vwCl (jtys kA) cc ret nL own p s m args meth c
