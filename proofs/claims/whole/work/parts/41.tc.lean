section TC_A
/-- the search for a handler comes to hpc, and leaves tables that are warmer -/
def Fn_ (e : Env) (s S : State) (g : JFrame) (x : Addr) (t : List ExceptionTableEntry) (hpc : Nat) : Prop :=
  ∃ vm', s.WarmedH vm' ∧ ∀ (Q : Handler → Pre) (E : CtlPost) (d : Bool) (acts : List Action), wp (findHandler.go g x t) Q E e d acts S ↔ Q (.found hpc) d acts (S.setVm vm')
variable {e : Env} {s S : State} {g : JFrame} {x : Addr} {t : List ExceptionTableEntry} {hpc : Nat} {args : Array Value} {own Y : String}
theorem fh_cold {Q : Handler → Pre} {E : CtlPost} {d : Bool} {acts : List Action} {en : ExceptionTableEntry} {c : ClassId} {cell : Cell} {vm' : Vm} (hx : covers en g.pc = true) (h0 : en.catchType ≠ 0) (hg : (Jvm.resolveClass g.method.cls en.catchType).Gives e.toSetting S.vm (.ok c) vm') (hsz : vm'.classes.size ≤ S.vm.classes.size)
    (hcell : S.heap[x]? = some cell) (hobj : ∀ k, cell.vm ≠ .statics k) (hk : ∃ k, vm'.classes[cell.cls]? = some k) (hc : ∃ k, vm'.classes[c]? = some k) :
    wp (findHandler.go g x (en :: t)) Q E e d acts S ↔ if vm'.assignable cell.cls c = true then Q (.found en.handlerPc) d acts (S.setVm vm') else wp (findHandler.go g x t) Q E e d acts (S.setVm vm') := by
  simp only [covers] at hx
  obtain ⟨ha, ht⟩ := hg.op (op := VmOp.resolveClass g.method.cls en.catchType) rfl
  cases hfit : vm'.assignable cell.cls c <;>
    simp [findHandler.go, hx, h0, ha, ht, hsz, hcell, hobj, hk, hc, hfit, VmOp.dirties, VmOp.acts]
theorem fh_link (hW : s.WarmedH S.vm) (hpl : e.platform.magicAccessors = ({} : Platform).magicAccessors) (hown : s.vm.findClass own = some g.method.cls) {i : Nat} (hlink : (Cond.classLink own i Y).before args s = true) :
    ∃ c vm', s.vm.findClass Y = some c ∧ (Jvm.resolveClass g.method.cls i).Gives e.toSetting S.vm (.ok c) vm' ∧ s.WarmedH vm' ∧ vm'.classes.size ≤ S.vm.classes.size := by
  obtain ⟨c, hfc, hcl⟩ := Cond.classLink_spec hown hlink e.platform hpl
  obtain ⟨hg₁, hwarm₁, hready₁⟩ := State.classEntry (e := e) hW hcl
  generalize hv : S.vm.noted g.method.cls i (.cls c) = vm₁ at hg₁ hwarm₁ hready₁
  exact ⟨c, vm₁, hfc, hg₁, hwarm₁, by no_record⟩
theorem fn_hit {en : ExceptionTableEntry} {cell : Cell} (hW : s.WarmedH S.vm) (hpl : e.platform.magicAccessors = ({} : Platform).magicAccessors) (hown : s.vm.findClass own = some g.method.cls) (hlink : (Cond.classLink own en.catchType Y).before args s = true) (hx : covers en g.pc = true) (h0 : en.catchType ≠ 0)
    (hcell : S.heap[x]? = some cell) (hobj : cell.vm = .none) (hY : s.vm.findClass Y = some cell.cls) (hself : s.vm.assignable cell.cls cell.cls = true) : Fn_ e s S g x (en :: t) en.handlerPc := by
  obtain ⟨c, vm', hfc, hg, hW', hsz⟩ := fh_link hW hpl hown hlink
  cases hY.symm.trans hfc
  have hk : ∃ k, vm'.classes[cell.cls]? = some k := by
    obtain ⟨k, hk⟩ := Vm.classAt_of_findClass hY
    obtain ⟨k', hk', -⟩ := hW'.alike.2.2 _ _ hk
    exact ⟨k', hk'⟩
  refine ⟨vm', hW', fun Q E d acts => ?_⟩
  rw [fh_cold hx h0 hg hsz hcell (fun k => by rw [hobj]; exact fun h => nomatch h) hk hk, if_pos (by rw [hW'.alike.assignable]; exact hself)]
theorem fn_miss {en : ExceptionTableEntry} {cell : Cell} {cC : ClassId} {C : String} (hW : s.WarmedH S.vm) (hpl : e.platform.magicAccessors = ({} : Platform).magicAccessors) (hown : s.vm.findClass own = some g.method.cls) (hlink : (Cond.classLink own en.catchType Y).before args s = true) (hx : covers en g.pc = true) (h0 : en.catchType ≠ 0)
    (hcell : S.heap[x]? = some cell) (hobj : cell.vm = .none) (hC : s.vm.findClass C = some cell.cls) (hne : ∀ c, s.vm.findClass Y = some c → s.vm.assignable cell.cls c = false)
    (k : ∀ vm1, s.WarmedH vm1 → Fn_ e s (S.setVm vm1) g x t hpc) : Fn_ e s S g x (en :: t) hpc := by
  obtain ⟨c, vm', hfc, hg, hW', hsz⟩ := fh_link hW hpl hown hlink
  have hk : ∀ {Z : String} {cz : ClassId}, s.vm.findClass Z = some cz → ∃ k, vm'.classes[cz]? = some k := fun hZ => by
    obtain ⟨k, hk⟩ := Vm.classAt_of_findClass hZ
    obtain ⟨k', hk', -⟩ := hW'.alike.2.2 _ _ hk
    exact ⟨k', hk'⟩
  obtain ⟨vm2, hW2, hQ⟩ := k vm' hW'
  refine ⟨vm2, hW2, fun Q E d acts => ?_⟩
  rw [fh_cold hx h0 hg hsz hcell (fun k => by rw [hobj]; exact fun h => nomatch h) (hk hC) (hk hfc), if_neg (by rw [hW'.alike.assignable, hne c hfc]; decide), hQ]
  rfl
/-- into the handler -/
theorem st_catch {S' : State} {r : List Frame} (hfind : ∀ (Q : Handler → Pre) (E : CtlPost) (d : Bool) (acts : List Action), wp (findHandler g x) Q E e d acts S ↔ Q (.found hpc) d acts S') :
    (stepThrowing e S x (.java g :: r)).Is (S'.setFrames (.java { g with pc := hpc, stack := [.ref x] } :: r)) [] := by
  simp only [stepThrowing, searchFrame, vmDo]
  generalize hr : Sem.go _ e false [] S = res
  obtain ⟨as, rfl, ha⟩ := Sem.eq_ok_of hr (a := Handler.found hpc) (s' := S') (acts' := []) (by simp [hfind _ _ _ _])
  exact ⟨rfl, ha⟩
theorem st_caught {tb : Tables} {target : State} {c : Code} {below : List Frame} {vm' : Vm} (h : At S g.method c below) (hfind : ∀ (Q : Handler → Pre) (E : CtlPost) (d : Bool) (acts : List Action), wp (findHandler g x) Q E e d acts ((S.setTop g).pushFrame (.throwing x)) ↔ Q (.found hpc) d acts (((S.setTop g).pushFrame (.throwing x)).setVm vm'))
    (hrest : Steps tb e below ((S.setVm vm').setTop { g with pc := hpc, stack := [.ref x] }) target) : Steps tb e below ((S.setTop g).pushFrame (.throwing x)) target := by
  obtain ⟨hgo, hw⟩ := h.throwing x
  refine Steps.head hgo hw ?_
  rw [stepThread_throwing (frames_entered h.top _), (st_catch hfind).1]
  obtain ⟨g₀, hg⟩ := Option.isSome_iff_exists.mp h.top
  obtain ⟨r, hr⟩ := State.topJava?_eq_some.mp hg
  have hr' : (S.setVm vm').frames = .java g₀ :: r := hr
  rw [State.setTop_of_frames _ hr'] at hrest
  have e1 : (((S.setTop g).pushFrame (.throwing x)).setVm vm').setFrames (.java { g with pc := hpc, stack := [.ref x] } :: S.frames.tail) = (S.setVm vm').setFrames (.java { g with pc := hpc, stack := [.ref x] } :: r) := by
    rw [State.pushFrame, State.setTop_of_frames _ hr, State.setFrames_setFrames, hr]
    show ((S.setFrames _).setVm vm').setFrames _ = _
    exact State.setFrames_setFrames (S.setVm vm') _ _
  rw [e1]
  exact hrest
end TC_A
