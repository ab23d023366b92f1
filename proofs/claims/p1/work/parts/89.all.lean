/-- one call -/
theorem step_all {L : Nat} {xs : Nat → Int32} (hL5 : L ≤ 5) : ∀ (k : Nat) (R : Nat → Int32) (Bu : Nat → Int32) (f : Int32) (g : Int32) (e : Int32) (w : Int32) (o : Int32) (th : Int32) (bu : Nat → Int32) (wd : Nat → Int32) (se : Nat → Int32) (le : Nat → Int32) (ki : Nat → Int32) (ow : Nat → Int32) (ol : Nat → Int32) (li : Nat → Int32) (vo : Nat → Int32) (ba : Int32) (co : Int32) (fi : Int32) (fo : Int32) (en : Int32) (cl : Int32) (lf : Int32) (bg : Int32) (bl : Int32) (O : Nat → Int64), Rel k (R, Bu, f, g, e, w, o, th, bu, wd, se, le, ki, ow, ol, li, vo, ba, co, fi, fo, en, cl, lf, bg, bl, O) → 5 * k + 5 ≤ L → wk_all (fun st => Rel (k + 1) st) L xs (nI (5 * k)) R Bu f g e w o th bu wd se le ki ow ol li vo ba co fi fo en cl lf bg bl O := by
  intro k R Bu f g e w o th bu wd se le ki ow ol li vo ba co fi fo en cl lf bg bl O hrel h5
  have hL : L ≤ 2560 := by omega
  obtain rfl : k = 0 := by omega
  have hsame : Rel (0 + 1) (R, Bu, f, g, e, w, o, th, bu, wd, se, le, ki, ow, ol, li, vo, ba, co, fi, fo, en, cl, lf, bg, bl, O) := by
    obtain ⟨S, v, a, b, hI⟩ := id hrel
    exact ⟨S, v, a, b, hI.mono⟩
  unfold wk_all
  exact ⟨fun _ => st_0 hrel h5 hL, fun _ => ⟨fun _ => st_1 hrel h5 hL, fun _ => ⟨fun _ => st_2 hrel h5 hL, fun _ => ⟨fun _ => st_3 hrel h5 hL, fun _ => ⟨fun _ => st_4 hrel h5 hL, fun _ => ⟨fun _ => st_5 hrel h5 hL, fun _ => ⟨fun _ => st_6 hrel h5 hL, fun _ => ⟨fun _ => st_7 hrel h5 hL, fun _ => ⟨fun _ => st_8 hrel h5 hL, fun _ => ⟨fun _ => st_9 hrel h5 hL, fun _ => ⟨fun _ => st_10 hrel h5 hL, fun _ => ⟨fun _ => st_11 hrel h5 hL, fun _ => ⟨fun _ => st_12 hrel h5 hL, fun _ => ⟨fun _ => st_13 hrel h5 hL, fun _ => ⟨fun _ => st_14 hrel h5 hL, fun _ => ⟨fun _ => st_15 hrel h5 hL, fun _ => ⟨fun _ => st_16 hrel h5 hL, fun _ => ⟨fun _ => st_17 hrel h5 hL, fun _ => ⟨fun _ => st_18 hrel h5 hL, fun _ => ⟨fun _ => st_19 hrel h5 hL, fun _ => ⟨fun _ => st_20 hrel h5 hL, fun _ => hsame⟩⟩⟩⟩⟩⟩⟩⟩⟩⟩⟩⟩⟩⟩⟩⟩⟩⟩⟩⟩⟩
