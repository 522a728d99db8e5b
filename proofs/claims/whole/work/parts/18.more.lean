def mt {α : Type} (o : Option Nat) (A : Nat → Mo α) (B : Mo α) : Mo α := match o with
  | some a => A a
  | none => B
theorem v_ifnn {g : GW} {M : MI} {d : Nat} {α : Type} {rt : α → Option Value} {pc pc' t : Nat} {off : Int} {lv : List (Nat × Value)} {st : List Value} {o : Option Nat} {A : Nat → Mo α} {B : Mo α} (hd : decode M.2.1 pc = .ok (.ifnonnull off, 3)) (ht : (pc : Int) + off = (t : Int)) (hp : pc + 3 = pc') (kt : ∀ a, o = some a → V g M d rt t lv st (A a)) (kf : o = none → V g M d rt pc' lv st B) : V g M d rt pc lv (rn g o :: st) (mt o A B) := by
  subst hp
  cases o with
  | none => exact V.step (fun _ _ _ _ _ _ _ _ _ _ _ _ _ _ _ _ hx hb _ k => lv_ifnonnullN hx hb hd k) (kf rfl)
  | some a => exact V.step (fun _ _ _ _ _ _ _ _ _ _ _ _ _ _ _ _ hx hb _ k => lv_ifnonnull hx hb hd ht k) (kt a rfl)
