theorem rf_all {P : Int32 → Prop} {e : Int32} (h : P e) : ∀ v, v = e → P v := fun _ hv => hv ▸ h
theorem rf_no {c A : Prop} (h : ¬ c) : c → A := fun k => absurd k h
set_option maxHeartbeats 8000000 in
set_option maxRecDepth 100000 in
theorem rf_run : rf_R 0 ((fun _ => 0), (fun _ => 0), (0 : Int32), (0 : Int32), (0 : Int32), (-1 : Int32), (1 : Int32), (0 : Int32), (fun _ => 0), (fun _ => 0), (fun _ => 0), (fun _ => 0), (fun _ => 0), (fun _ => 0), (fun _ => 0), (fun _ => 0), (fun _ => 0), (0 : Int32), (0 : Int32), (0 : Int32), (0 : Int32), (0 : Int32), (0 : Int32), (-1 : Int32), (-1 : Int32), (0 : Int32), (fun _ => 0)) := by
  repeat' first
    | exact True.intro
    | refine rf_all ?_
    | exact rf_no (by decide +kernel)
    | refine fun _ => ?_
    | refine And.intro ?_ ?_
    | refine Exists.intro 8 ?_
    | exact Eq.refl _
    | decide +kernel
