theorem c_keep {w : Wd} {sh : Shp} {g : Mem} {h f v c : Nat} (hH : HsS sh.1 h) (hF : ExS sh.1 f) (hv : g h 1 = (v : Int)) (hc : g h 2 = (c : Int)) (hc8 : c ≤ 8) (hv8 : v < 8) (hd : f + 75 ≤ h ∨ h + 602 ≤ f) : CT w mX3_keep [.ref h, .ref f] sh g (vQ sh (fun g2 => ∃ ga, CpX (up2 g h 1 (((v + 1) % 8 : Nat) : Int)) ga (h + 2 + 75 * ((v + 1) % 8)) f ∧ g2 = up2 ga h 2 (if c < 8 then (c : Int) + 1 else 8))) := by
  by_cases hn : v + 1 < 8
  · rw [show (v + 1) % 8 = v + 1 by omega]; exact c_keep0 hH hF hv hc hc8 hv8 hd hn
  · rw [show (v + 1) % 8 = 0 by omega]; exact c_keep1 hH hF hv hc hc8 hv8 hd hn
theorem c_takeBack {w : Wd} {sh : Shp} {g : Mem} {h f v c : Nat} (hH : HsS sh.1 h) (hF : ExS sh.1 f) (hv : g h 1 = (v : Int)) (hc : g h 2 = (c : Int)) (hc8 : c ≤ 8) (hc1 : 1 ≤ c) (hv8 : v < 8) (hd : f + 75 ≤ h ∨ h + 602 ≤ f) : CT w mX3_takeBack [.ref h, .ref f] sh g (iQ sh (fun z g2 => z = (c : Int) - 1 ∧ ∃ ga, CpX g ga f (h + 2 + 75 * v) ∧ g2 = up2 (up2 ga h 1 (((v + 7) % 8 : Nat) : Int)) h 2 ((c : Int) - 1))) := by
  by_cases hn : 0 < v
  · have e : (((v + 7) % 8 : Nat) : Int) = (v : Int) - 1 := by omega
    rw [e]; exact c_takeBack2 hH hF hv hc hc8 hc1 hv8 hd hn
  · have e : v = 0 := by omega
    subst e
    exact c_takeBack1 hH hF hv hc hc8 hc1 hv8 hd rfl
/-- the History at h holds c rows, the newest first -/
def HX (g : Mem) (h : Nat) (hist : Nat → (Nat → Int)) (c : Nat) : Prop := c ≤ 8 ∧ g h 2 = (c : Int) ∧ (∀ i, i < 8 → ExI g (h + 2 + 75 * i)) ∧ ∃ v : Nat, v < 8 ∧ g h 1 = (v : Int) ∧ ∀ j : Nat, j < c → KX g (h + 2 + 75 * ((v + 8 - j) % 8)) (hist j)
def push (d : Nat → Int) (hist : Nat → (Nat → Int)) : Nat → (Nat → Int) := fun j => if j = 0 then d else hist (j - 1)
section HH
variable {g ga : Mem} {h f e : Nat} {d : Nat → Int} {hist : Nat → (Nat → Int)} {c : Nat}
theorem ExI.same {g2 : Mem} (H : ExI g e) (q : ∀ a, e ≤ a → a < e + 75 → g2 a 0 = g a 0) : ExI g2 e := by
  obtain ⟨i3, i9, i26, i31, i35⟩ := H
  exact ⟨fun i hi => by rw [q _ (by omega) (by omega)]; exact i3 i hi, fun i hi => by rw [q _ (by omega) (by omega)]; exact i9 i hi, fun i hi => by rw [q _ (by omega) (by omega)]; exact i26 i hi, fun i hi => by rw [q _ (by omega) (by omega)]; exact i31 i hi, fun i hi => by rw [q _ (by omega) (by omega)]; exact i35 i hi⟩
/-- the rows of an Exchange stay -/
theorem KX.rows {g2 : Mem} (H : KX g f d) (q : ∀ a, f ≤ a → a < f + 75 → g2 a = g a) : KX g2 f d := by
  have hF : Fr g (fun a => if f ≤ a ∧ a < f + 75 then g2 a else g a) (f + 75) := fun a ha => by
    show (if f ≤ a ∧ a < f + 75 then g2 a else g a) = g a
    split
    · next h => exact q a h.1 h.2
    · rfl
  obtain ⟨⟨⟨i3, i9, i26, i31, i35⟩, s, r1, r3, r9, r26, r31, r35⟩, hI, hP⟩ := H
  have hb := hI.1
  refine ⟨⟨⟨fun i hi => by rw [q _ (by omega) (by omega)]; exact i3 i hi, fun i hi => by rw [q _ (by omega) (by omega)]; exact i9 i hi, fun i hi => by rw [q _ (by omega) (by omega)]; exact i26 i hi, fun i hi => by rw [q _ (by omega) (by omega)]; exact i31 i hi, fun i hi => by rw [q _ (by omega) (by omega)]; exact i35 i hi⟩, by rw [q f (by omega) (by omega)]; exact s, fun i hi => by rw [q _ (by omega) (by omega)]; exact r1 i hi, fun x hx => ?_, fun r hr => ?_, fun r hr => by rw [q _ (by omega) (by omega)]; exact r26 r hr, fun k hk => by rw [q _ (by omega) (by omega)]; exact r31 k hk, fun c hc => by rw [q _ (by omega) (by omega)]; exact r35 c hc⟩, hI, hP⟩
  · have := hb.2.2.2.1
    rw [q _ (by omega) (by omega)]; exact r3 x hx
  · have := hb.2.2.2.2.1
    rw [q (f + 9 + 2 * r) (by omega) (by omega), q (f + 10 + 2 * r) (by omega) (by omega)]; exact r9 r hr
theorem up2_row {a b k : Nat} {x : Int} (hb : b ≠ a) : up2 g a k x b = g b := funext fun j => up2_a hb
theorem HX.keep {v : Nat} (H : HX g h hist c) (hv : g h 1 = (v : Int)) (hd : f + 75 ≤ h ∨ h + 602 ≤ f) (hK : KX g f d) (hC : CpX (up2 g h 1 (((v + 1) % 8 : Nat) : Int)) ga (h + 2 + 75 * ((v + 1) % 8)) f) :
    HX (up2 ga h 2 (if c < 8 then (c : Int) + 1 else 8)) h (push d hist) (if c < 8 then c + 1 else 8) ∧ ∀ a, a < h ∨ h + 602 ≤ a → (up2 ga h 2 (if c < 8 then (c : Int) + 1 else 8)) a = g a := by
  obtain ⟨h8, h2, hi, v2, hv8, hv2, hr⟩ := H
  have ev : v2 = v := by omega
  rw [ev] at hv8 hv2 hr
  have hg1 : ∀ a, a ≠ h → up2 g h 1 (((v + 1) % 8 : Nat) : Int) a = g a := fun a ha => up2_row ha
  have hKf : KX (up2 g h 1 (((v + 1) % 8 : Nat) : Int)) f d := hK.rows (fun a h1 h2 => hg1 a (by omega))
  have hIn : ExI (up2 g h 1 (((v + 1) % 8 : Nat) : Int)) (h + 2 + 75 * ((v + 1) % 8)) := (hi _ (by omega)).same (fun a h1 h2 => by rw [hg1 a (by omega)])
  obtain ⟨k1, k2, k3⟩ := hC.kx (by omega) hKf hIn
  have hgo : ∀ a, a ≠ h → (a < h + 2 + 75 * ((v + 1) % 8) ∨ h + 2 + 75 * ((v + 1) % 8) + 75 ≤ a) → ∀ x, (up2 ga h 2 x) a = g a := fun a ha ha2 x => by rw [up2_row ha, k2 a ha2, hg1 a ha]
  refine ⟨⟨by split <;> omega, ?_, fun i hi8 => ?_, (v + 1) % 8, by omega, ?_, fun j hj => ?_⟩, fun a ha => hgo a (by omega) (by omega) _⟩
  · rw [up2_s]; split <;> rfl
  · by_cases q : i = (v + 1) % 8
    · subst q
      exact k1.1.1.same (fun a h1 h2 => by rw [up2_row (by omega)])
    · exact (hi i hi8).same (fun a h1 h2 => by rw [hgo a (by omega) (by omega)])
  · rw [up2_k (by decide), k2 h (by omega)]; exact up2_s
  · by_cases q : j = 0
    · subst q
      rw [show ((v + 1) % 8 + 8 - 0) % 8 = (v + 1) % 8 by omega]
      exact k1.rows (fun a h1 h2 => up2_row (by omega))
    · have hj2 : j - 1 < c := by split at hj <;> omega
      have hj8 : j < 8 := by split at hj <;> omega
      rw [show ((v + 1) % 8 + 8 - j) % 8 = (v + 8 - (j - 1)) % 8 by omega]
      have e : push d hist j = hist (j - 1) := if_neg q
      rw [e]
      exact (hr (j - 1) hj2).rows (fun a h1 h2 => hgo a (by omega) (by omega) _)
theorem HX.back {v : Nat} (H : HX g h hist c) (hv : g h 1 = (v : Int)) (hc1 : 1 ≤ c) (hd : f + 75 ≤ h ∨ h + 602 ≤ f) (hIf : ExI g f) (hC : CpX g ga f (h + 2 + 75 * v)) :
    KX (up2 (up2 ga h 1 (((v + 7) % 8 : Nat) : Int)) h 2 ((c : Int) - 1)) f (hist 0) ∧ HX (up2 (up2 ga h 1 (((v + 7) % 8 : Nat) : Int)) h 2 ((c : Int) - 1)) h (fun j => hist (j + 1)) (c - 1) ∧ ∀ a, a ≠ h → (a < f ∨ f + 75 ≤ a) → (up2 (up2 ga h 1 (((v + 7) % 8 : Nat) : Int)) h 2 ((c : Int) - 1)) a = g a := by
  obtain ⟨h8, h2, hi, v2, hv8, hv2, hr⟩ := H
  have ev : v2 = v := by omega
  rw [ev] at hv8 hv2 hr
  have h0 := hr 0 (by omega)
  rw [show (v + 8 - 0) % 8 = v by omega] at h0
  obtain ⟨k1, k2, k3⟩ := hC.kx (by omega) h0 hIf
  have hgo : ∀ a, a ≠ h → (a < f ∨ f + 75 ≤ a) → ∀ x y, (up2 (up2 ga h 1 x) h 2 y) a = g a := fun a ha ha2 x y => by rw [up2_row ha, up2_row ha, k2 a ha2]
  refine ⟨k1.rows (fun a h1 h2 => by rw [up2_row (by omega), up2_row (by omega)]), ⟨by omega, ?_, fun i hi8 => ?_, (v + 7) % 8, by omega, ?_, fun j hj => ?_⟩, fun a ha ha2 => hgo a ha ha2 _ _⟩
  · rw [up2_s]; omega
  · exact (hi i hi8).same (fun a h1 h2 => by rw [hgo a (by omega) (by omega)])
  · rw [up2_k (by decide), up2_s]
  · rw [show ((v + 7) % 8 + 8 - j) % 8 = (v + 8 - (j + 1)) % 8 by omega]
    exact (hr (j + 1) (by omega)).rows (fun a h1 h2 => hgo a (by omega) (by omega) _ _)
end HH
