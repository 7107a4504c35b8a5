/-! the law: the loop -/
section
variable {sc : Nat × (Nat → Int32)} {D : Nat} {J L : Nat → Int → Int} {W : nw_W} {c sl : Nat} {Qr : nw_QR} {Qx : nw_QX} {g : Int → Int} {B : Int}
theorem t_loop (hD : 18 ≤ D) (hN : (sc.1 : Int) ≤ 2560) (hQ : ∀ M, Qr (some (.inl 1)) M) : ∀ (r : Nat) (J L : Nat → Int → Int) (W : nw_W) (B i : Int) (c sl : Nat), 0 ≤ i → (sc.1 : Int) - i < 5 * ((r : Int) + 1) → B + 2200 * (r : Int) ≤ 4000000 → 28 * r ≤ c → 4006 * r ≤ sl → sp_Wd J L W B → NW sc d_L_law D (28, [some (.inr (.inl (some 1000000))), some (.inr (.inl (some 0))), some (.inr (.inl (some 303))), some (.inr (.inl (some 314))), some (.inr (.inl (some 315))), some (.inl i), none, none, none], [], (J, L, W), c, sl) Qr Qx := by
  intro r
  induction r with
  | zero =>
    intro J L W B i c sl i0 i1 hB hc hs h
    exact b_L_law_28 ⟨by omega, by omega, fun _ => hQ _, fun z => by omega⟩
  | succ r ih =>
    intro J L W B i c sl i0 i1 hB hc hs h
    refine nw_fact (fun hn9 => ?_)
    refine b_L_law_28 ⟨by omega, by omega, fun _ => hQ _, fun z => ⟨by omega, ?_⟩⟩
    have hi : 0 ≤ i ∧ i + 5 ≤ (sc.1 : Int) ∧ (sc.1 : Int) ≤ 2560 := by omega
    have hB2 : B + 2200 ≤ 4000000 := by omega
    have hc2 : 28 ≤ c := by omega
    have hs2 : 4006 ≤ sl := by omega
    have nx : ∀ J' L' W' c1 s1, c ≤ c1 + 28 → sl ≤ s1 + 4006 → sp_Wd J' L' W' (B + 2200) → NW sc d_L_law D (3300, [some (.inr (.inl (some 1000000))), some (.inr (.inl (some 0))), some (.inr (.inl (some 303))), some (.inr (.inl (some 314))), some (.inr (.inl (some 315))), some (.inl i), none, none, none], [], (J', L', W'), c1, s1) Qr Qx := fun J' L' W' c1 s1 e1 e2 h' => b_L_law_3300 ⟨by omega, ih J' L' W' (B + 2200) (i + 5) c1 s1 (by omega) (by omega) (by omega) (by omega) (by omega) h'⟩
    refine ⟨fun _ => case_addCrater hi h hB2 hD hc2 hs2 nx, fun _ => ?_⟩
    refine ⟨fun _ => case_addChannel hi h hB2 hD hc2 hs2 nx, fun _ => ?_⟩
    refine ⟨fun _ => case_removeChannel hi h hB2 hD hc2 hs2 nx, fun _ => ?_⟩
    refine ⟨fun _ => case_craterCount hi h hB2 hD hc2 hs2 nx, fun _ => ?_⟩
    refine ⟨fun _ => case_channelCount hi h hB2 hD hc2 hs2 nx, fun _ => ?_⟩
    refine ⟨fun _ => case_depthOf hi h hB2 hD hc2 hs2 nx, fun _ => ?_⟩
    refine ⟨fun _ => case_channelBetween hi h hB2 hD hc2 hs2 nx, fun _ => ?_⟩
    refine ⟨fun _ => case_tide hi h hB2 hD hc2 hs2 nx, fun _ => ?_⟩
    refine ⟨fun _ => case_wayHours hi h hB2 hD hc2 hs2 nx, fun _ => ?_⟩
    refine ⟨fun _ => case_wayHoursByTable hi h hB2 hD hc2 hs2 nx, fun _ => ?_⟩
    refine ⟨fun _ => case_cheapestNet hi h hB2 hD hc2 hs2 nx, fun _ => ?_⟩
    refine ⟨fun _ => case_cheapestNetByGrowing hi h hB2 hD hc2 hs2 nx, fun _ => ?_⟩
    refine ⟨fun _ => case_addFerry hi h hB2 hD hc2 hs2 nx, fun _ => ?_⟩
    refine ⟨fun _ => case_sail hi h hB2 hD hc2 hs2 nx, fun _ => ?_⟩
    refine ⟨fun _ => case_isAtSea hi h hB2 hD hc2 hs2 nx, fun _ => ?_⟩
    refine ⟨fun _ => case_craterOf hi h hB2 hD hc2 hs2 nx, fun _ => ?_⟩
    refine ⟨fun _ => case_targetOf hi h hB2 hD hc2 hs2 nx, fun _ => ?_⟩
    refine ⟨fun _ => case_hoursLeft hi h hB2 hD hc2 hs2 nx, fun _ => ?_⟩
    refine ⟨fun _ => case_isStranded hi h hB2 hD hc2 hs2 nx, fun _ => ?_⟩
    refine ⟨fun _ => case_loadOf hi h hB2 hD hc2 hs2 nx, fun _ => ?_⟩
    refine ⟨fun _ => case_earliestArrival hi h hB2 hD hc2 hs2 nx, fun _ => ?_⟩
    refine ⟨fun _ => case_earliestArrivalByHours hi h hB2 hD hc2 hs2 nx, fun _ => ?_⟩
    refine ⟨fun _ => case_addMoon hi h hB2 hD hc2 hs2 nx, fun _ => ?_⟩
    refine ⟨fun _ => case_board hi h hB2 hD hc2 hs2 nx, fun _ => ?_⟩
    refine ⟨fun _ => case_land hi h hB2 hD hc2 hs2 nx, fun _ => ?_⟩
    refine ⟨fun _ => case_loadBest hi h hB2 hD hc2 hs2 nx, fun _ => ?_⟩
    refine ⟨fun _ => case_bestLoad hi h hB2 hD hc2 hs2 nx, fun _ => ?_⟩
    refine ⟨fun _ => case_bestLoadByTable hi h hB2 hD hc2 hs2 nx, fun _ => ?_⟩
    refine ⟨fun _ => case_rescue hi h hB2 hD hc2 hs2 nx, fun _ => ?_⟩
    refine ⟨fun _ => case_moonCount hi h hB2 hD hc2 hs2 nx, fun _ => ?_⟩
    refine ⟨fun _ => case_moonAt hi h hB2 hD hc2 hs2 nx, fun _ => ?_⟩
    refine ⟨fun _ => case_ferryOf hi h hB2 hD hc2 hs2 nx, fun _ => ?_⟩
    refine ⟨fun _ => case_shoreOf hi h hB2 hD hc2 hs2 nx, fun _ => ?_⟩
    refine ⟨fun _ => case_phaseOf hi h hB2 hD hc2 hs2 nx, fun _ => ?_⟩
    refine ⟨fun _ => case_fareOf hi h hB2 hD hc2 hs2 nx, fun _ => ?_⟩
    refine ⟨fun _ => case_moonAtRank hi h hB2 hD hc2 hs2 nx, fun _ => ?_⟩
    refine ⟨fun _ => case_countBelow hi h hB2 hD hc2 hs2 nx, fun _ => ?_⟩
    refine ⟨fun _ => case_countBelowByAsking hi h hB2 hD hc2 hs2 nx, fun _ => ?_⟩
    refine ⟨fun _ => case_pass hi h hB2 hD hc2 hs2 nx, fun _ => ?_⟩
    refine ⟨fun _ => case_hour hi h hB2 hD hc2 hs2 nx, fun _ => ?_⟩
    refine ⟨fun _ => case_refusalReason hi h hB2 hD hc2 hs2 nx, fun _ => ?_⟩
    refine ⟨fun _ => case_passageCount hi h hB2 hD hc2 hs2 nx, fun _ => ?_⟩
    refine ⟨fun _ => case_passageFerry hi h hB2 hD hc2 hs2 nx, fun _ => ?_⟩
    refine ⟨fun _ => case_passageCrater hi h hB2 hD hc2 hs2 nx, fun _ => ?_⟩
    refine ⟨fun _ => case_passageHour hi h hB2 hD hc2 hs2 nx, fun _ => ?_⟩
    refine ⟨fun _ => case_strandingCount hi h hB2 hD hc2 hs2 nx, fun _ => ?_⟩
    refine ⟨fun _ => case_coins hi h hB2 hD hc2 hs2 nx, fun _ => ?_⟩
    refine ⟨fun _ => case_fareTotal hi h hB2 hD hc2 hs2 nx, fun _ => ?_⟩
    refine ⟨fun _ => case_append hi h hB2 hD hc2 hs2 nx, fun _ => ?_⟩
    refine ⟨fun _ => case_run hi h hB2 hD hc2 hs2 nx, fun _ => ?_⟩
    refine ⟨fun _ => case_errorPosition hi h hB2 hD hc2 hs2 nx, fun _ => ?_⟩
    refine ⟨fun _ => case_failedCommand hi h hB2 hD hc2 hs2 nx, fun _ => ?_⟩
    refine ⟨fun _ => case_describeFerry hi h hB2 hD hc2 hs2 hn9 nx, fun _ => ?_⟩
    refine ⟨fun _ => case_lineAt hi h hB2 hD hc2 hs2 nx, fun _ => ?_⟩
    refine ⟨fun _ => case_meanPhase hi h hB2 hD hc2 hs2 nx, fun _ => ?_⟩
    refine ⟨fun _ => case_loadShare hi h hB2 hD hc2 hs2 nx, fun _ => ?_⟩
    refine ⟨fun _ => case_isConsistent hi h hB2 hD hc2 hs2 nx, fun _ => ?_⟩
    refine ⟨fun _ => case_undo hi h hB2 hD hc2 hs2 nx, fun _ => ?_⟩
    refine ⟨fun _ => case_save hi h hB2 hD hc2 hs2 nx, fun _ => ?_⟩
    refine ⟨fun _ => case_restore hi h hB2 hD hc2 hs2 nx, fun _ => ?_⟩
    exact nx J L W c sl (by omega) (by omega) (h.q ⟨by omega, hB2⟩ (fun _ _ => rfl) (fun _ _ => rfl) (fun _ _ => rfl) rfl sp_wW.refl)
end
