theorem d4_renderText_11 : decode b4_renderText 11 = .ok (.invokevirtual 160, 3) := by decide +kernel
theorem d4_renderText_14 : decode b4_renderText 14 = .ok (.return_, 1) := by decide +kernel
