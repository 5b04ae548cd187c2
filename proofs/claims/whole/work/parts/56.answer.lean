def q_Ref_turnedInto (cd : Int32) (a0 : Int32) (a1 : Int64) : Int64 :=
  if a0 < (168 : Int32) then
    if a0 < (174 : Int32) then
      if a0 = (172 : Int32) then
        (if (if (a0 - a0 / (2 : Int32) * (2 : Int32)) = 0 then (1 : Int32) else (0 : Int32)) = 0 then a1 else (q_Ref_withSign a1 (32 : Int32)))
      else
        if a0 = (173 : Int32) then
          (if (if (a0 - a0 / (2 : Int32) * (2 : Int32)) = 0 then (1 : Int32) else (0 : Int32)) = 0 then a1 else (q_Ref_withSign a1 (32 : Int32)))
        else
          if a0 = (178 : Int32) then
            (q_Ref_floating (fF (32 : Int32)) (fB (32 : Int32)) (q_Ref_format_wi (32 : Int32)) (if (if (a0 - a0 / (2 : Int32) * (2 : Int32)) = 0 then (1 : Int32) else (0 : Int32)) = 0 then a1 else (if (180 : Int32) ≤ a0 then a1 else (q_Ref_withSign a1 (32 : Int32)))) (if (a0 - a0 / (2 : Int32) * (2 : Int32)) = 0 then (1 : Int32) else (0 : Int32)))
          else
            if a0 = (179 : Int32) then
              (q_Ref_floating (fF (32 : Int32)) (fB (32 : Int32)) (q_Ref_format_wi (32 : Int32)) (if (if (a0 - a0 / (2 : Int32) * (2 : Int32)) = 0 then (1 : Int32) else (0 : Int32)) = 0 then a1 else (if (180 : Int32) ≤ a0 then a1 else (q_Ref_withSign a1 (32 : Int32)))) (if (a0 - a0 / (2 : Int32) * (2 : Int32)) = 0 then (1 : Int32) else (0 : Int32)))
            else
              if a0 = (180 : Int32) then
                (q_Ref_floating (fF (32 : Int32)) (fB (32 : Int32)) (q_Ref_format_wi (32 : Int32)) (if (if (a0 - a0 / (2 : Int32) * (2 : Int32)) = 0 then (1 : Int32) else (0 : Int32)) = 0 then a1 else (if (180 : Int32) ≤ a0 then a1 else (q_Ref_withSign a1 (32 : Int32)))) (if (a0 - a0 / (2 : Int32) * (2 : Int32)) = 0 then (1 : Int32) else (0 : Int32)))
              else
                if a0 = (181 : Int32) then
                  (q_Ref_floating (fF (32 : Int32)) (fB (32 : Int32)) (q_Ref_format_wi (32 : Int32)) (if (if (a0 - a0 / (2 : Int32) * (2 : Int32)) = 0 then (1 : Int32) else (0 : Int32)) = 0 then a1 else (if (180 : Int32) ≤ a0 then a1 else (q_Ref_withSign a1 (32 : Int32)))) (if (a0 - a0 / (2 : Int32) * (2 : Int32)) = 0 then (1 : Int32) else (0 : Int32)))
                else
                  if a0 = (182 : Int32) then
                    (q_Ref_reformed (fF (if a0 = (182 : Int32) then (64 : Int32) else (32 : Int32))) (fB (if a0 = (182 : Int32) then (64 : Int32) else (32 : Int32))) (fF (if a0 = (182 : Int32) then (32 : Int32) else (64 : Int32))) (fB (if a0 = (182 : Int32) then (32 : Int32) else (64 : Int32))) (q_Ref_format_wi (if a0 = (182 : Int32) then (64 : Int32) else (32 : Int32))) (q_Ref_format_fr (if a0 = (182 : Int32) then (64 : Int32) else (32 : Int32))) (q_Ref_format_bi (if a0 = (182 : Int32) then (64 : Int32) else (32 : Int32))) a1 (if a0 = (182 : Int32) then (32 : Int32) else (64 : Int32)))
                  else
                    if a0 = (183 : Int32) then
                      (q_Ref_floating (fF (64 : Int32)) (fB (64 : Int32)) (q_Ref_format_wi (64 : Int32)) (if a0 = (183 : Int32) then (q_Ref_withSign a1 (32 : Int32)) else a1) (if (if (a0 - a0 / (2 : Int32) * (2 : Int32)) = 0 then (1 : Int32) else (0 : Int32)) = 0 then (1 : Int32) else (0 : Int32)))
                    else
                      if a0 = (184 : Int32) then
                        (q_Ref_floating (fF (64 : Int32)) (fB (64 : Int32)) (q_Ref_format_wi (64 : Int32)) (if a0 = (183 : Int32) then (q_Ref_withSign a1 (32 : Int32)) else a1) (if (if (a0 - a0 / (2 : Int32) * (2 : Int32)) = 0 then (1 : Int32) else (0 : Int32)) = 0 then (1 : Int32) else (0 : Int32)))
                      else
                        if a0 = (185 : Int32) then
                          (q_Ref_floating (fF (64 : Int32)) (fB (64 : Int32)) (q_Ref_format_wi (64 : Int32)) (if a0 = (183 : Int32) then (q_Ref_withSign a1 (32 : Int32)) else a1) (if (if (a0 - a0 / (2 : Int32) * (2 : Int32)) = 0 then (1 : Int32) else (0 : Int32)) = 0 then (1 : Int32) else (0 : Int32)))
                        else
                          if a0 = (186 : Int32) then
                            (q_Ref_floating (fF (64 : Int32)) (fB (64 : Int32)) (q_Ref_format_wi (64 : Int32)) (if a0 = (183 : Int32) then (q_Ref_withSign a1 (32 : Int32)) else a1) (if (if (a0 - a0 / (2 : Int32) * (2 : Int32)) = 0 then (1 : Int32) else (0 : Int32)) = 0 then (1 : Int32) else (0 : Int32)))
                          else
                            if a0 = (187 : Int32) then
                              (q_Ref_reformed (fF (if a0 = (182 : Int32) then (64 : Int32) else (32 : Int32))) (fB (if a0 = (182 : Int32) then (64 : Int32) else (32 : Int32))) (fF (if a0 = (182 : Int32) then (32 : Int32) else (64 : Int32))) (fB (if a0 = (182 : Int32) then (32 : Int32) else (64 : Int32))) (q_Ref_format_wi (if a0 = (182 : Int32) then (64 : Int32) else (32 : Int32))) (q_Ref_format_fr (if a0 = (182 : Int32) then (64 : Int32) else (32 : Int32))) (q_Ref_format_bi (if a0 = (182 : Int32) then (64 : Int32) else (32 : Int32))) a1 (if a0 = (182 : Int32) then (32 : Int32) else (64 : Int32)))
                            else
                              a1
    else
      if (177 : Int32) < a0 then
        if a0 = (172 : Int32) then
          (if (if (a0 - a0 / (2 : Int32) * (2 : Int32)) = 0 then (1 : Int32) else (0 : Int32)) = 0 then a1 else (q_Ref_withSign a1 (32 : Int32)))
        else
          if a0 = (173 : Int32) then
            (if (if (a0 - a0 / (2 : Int32) * (2 : Int32)) = 0 then (1 : Int32) else (0 : Int32)) = 0 then a1 else (q_Ref_withSign a1 (32 : Int32)))
          else
            if a0 = (178 : Int32) then
              (q_Ref_floating (fF (32 : Int32)) (fB (32 : Int32)) (q_Ref_format_wi (32 : Int32)) (if (if (a0 - a0 / (2 : Int32) * (2 : Int32)) = 0 then (1 : Int32) else (0 : Int32)) = 0 then a1 else (if (180 : Int32) ≤ a0 then a1 else (q_Ref_withSign a1 (32 : Int32)))) (if (a0 - a0 / (2 : Int32) * (2 : Int32)) = 0 then (1 : Int32) else (0 : Int32)))
            else
              if a0 = (179 : Int32) then
                (q_Ref_floating (fF (32 : Int32)) (fB (32 : Int32)) (q_Ref_format_wi (32 : Int32)) (if (if (a0 - a0 / (2 : Int32) * (2 : Int32)) = 0 then (1 : Int32) else (0 : Int32)) = 0 then a1 else (if (180 : Int32) ≤ a0 then a1 else (q_Ref_withSign a1 (32 : Int32)))) (if (a0 - a0 / (2 : Int32) * (2 : Int32)) = 0 then (1 : Int32) else (0 : Int32)))
              else
                if a0 = (180 : Int32) then
                  (q_Ref_floating (fF (32 : Int32)) (fB (32 : Int32)) (q_Ref_format_wi (32 : Int32)) (if (if (a0 - a0 / (2 : Int32) * (2 : Int32)) = 0 then (1 : Int32) else (0 : Int32)) = 0 then a1 else (if (180 : Int32) ≤ a0 then a1 else (q_Ref_withSign a1 (32 : Int32)))) (if (a0 - a0 / (2 : Int32) * (2 : Int32)) = 0 then (1 : Int32) else (0 : Int32)))
                else
                  if a0 = (181 : Int32) then
                    (q_Ref_floating (fF (32 : Int32)) (fB (32 : Int32)) (q_Ref_format_wi (32 : Int32)) (if (if (a0 - a0 / (2 : Int32) * (2 : Int32)) = 0 then (1 : Int32) else (0 : Int32)) = 0 then a1 else (if (180 : Int32) ≤ a0 then a1 else (q_Ref_withSign a1 (32 : Int32)))) (if (a0 - a0 / (2 : Int32) * (2 : Int32)) = 0 then (1 : Int32) else (0 : Int32)))
                  else
                    if a0 = (182 : Int32) then
                      (q_Ref_reformed (fF (if a0 = (182 : Int32) then (64 : Int32) else (32 : Int32))) (fB (if a0 = (182 : Int32) then (64 : Int32) else (32 : Int32))) (fF (if a0 = (182 : Int32) then (32 : Int32) else (64 : Int32))) (fB (if a0 = (182 : Int32) then (32 : Int32) else (64 : Int32))) (q_Ref_format_wi (if a0 = (182 : Int32) then (64 : Int32) else (32 : Int32))) (q_Ref_format_fr (if a0 = (182 : Int32) then (64 : Int32) else (32 : Int32))) (q_Ref_format_bi (if a0 = (182 : Int32) then (64 : Int32) else (32 : Int32))) a1 (if a0 = (182 : Int32) then (32 : Int32) else (64 : Int32)))
                    else
                      if a0 = (183 : Int32) then
                        (q_Ref_floating (fF (64 : Int32)) (fB (64 : Int32)) (q_Ref_format_wi (64 : Int32)) (if a0 = (183 : Int32) then (q_Ref_withSign a1 (32 : Int32)) else a1) (if (if (a0 - a0 / (2 : Int32) * (2 : Int32)) = 0 then (1 : Int32) else (0 : Int32)) = 0 then (1 : Int32) else (0 : Int32)))
                      else
                        if a0 = (184 : Int32) then
                          (q_Ref_floating (fF (64 : Int32)) (fB (64 : Int32)) (q_Ref_format_wi (64 : Int32)) (if a0 = (183 : Int32) then (q_Ref_withSign a1 (32 : Int32)) else a1) (if (if (a0 - a0 / (2 : Int32) * (2 : Int32)) = 0 then (1 : Int32) else (0 : Int32)) = 0 then (1 : Int32) else (0 : Int32)))
                        else
                          if a0 = (185 : Int32) then
                            (q_Ref_floating (fF (64 : Int32)) (fB (64 : Int32)) (q_Ref_format_wi (64 : Int32)) (if a0 = (183 : Int32) then (q_Ref_withSign a1 (32 : Int32)) else a1) (if (if (a0 - a0 / (2 : Int32) * (2 : Int32)) = 0 then (1 : Int32) else (0 : Int32)) = 0 then (1 : Int32) else (0 : Int32)))
                          else
                            if a0 = (186 : Int32) then
                              (q_Ref_floating (fF (64 : Int32)) (fB (64 : Int32)) (q_Ref_format_wi (64 : Int32)) (if a0 = (183 : Int32) then (q_Ref_withSign a1 (32 : Int32)) else a1) (if (if (a0 - a0 / (2 : Int32) * (2 : Int32)) = 0 then (1 : Int32) else (0 : Int32)) = 0 then (1 : Int32) else (0 : Int32)))
                            else
                              if a0 = (187 : Int32) then
                                (q_Ref_reformed (fF (if a0 = (182 : Int32) then (64 : Int32) else (32 : Int32))) (fB (if a0 = (182 : Int32) then (64 : Int32) else (32 : Int32))) (fF (if a0 = (182 : Int32) then (32 : Int32) else (64 : Int32))) (fB (if a0 = (182 : Int32) then (32 : Int32) else (64 : Int32))) (q_Ref_format_wi (if a0 = (182 : Int32) then (64 : Int32) else (32 : Int32))) (q_Ref_format_fr (if a0 = (182 : Int32) then (64 : Int32) else (32 : Int32))) (q_Ref_format_bi (if a0 = (182 : Int32) then (64 : Int32) else (32 : Int32))) a1 (if a0 = (182 : Int32) then (32 : Int32) else (64 : Int32)))
                              else
                                a1
      else
        (q_Ref_cut cd (q_Ref_format_wi (if (q_Ref_first a0) = (2 : Int32) then (32 : Int32) else (64 : Int32))) (q_Ref_format_fr (if (q_Ref_first a0) = (2 : Int32) then (32 : Int32) else (64 : Int32))) (q_Ref_format_bi (if (q_Ref_first a0) = (2 : Int32) then (32 : Int32) else (64 : Int32))) (0 : Int32) (0 : Int64) (0 : Int32) a1 (if (172 : Int32) ≤ a0 then (64 : Int32) else (32 : Int32)) (if (a0 - a0 / (2 : Int32) * (2 : Int32)) = 0 then (1 : Int32) else (0 : Int32)))
  else
    if a0 ≤ (171 : Int32) then
      (q_Ref_cut cd (q_Ref_format_wi (if (q_Ref_first a0) = (2 : Int32) then (32 : Int32) else (64 : Int32))) (q_Ref_format_fr (if (q_Ref_first a0) = (2 : Int32) then (32 : Int32) else (64 : Int32))) (q_Ref_format_bi (if (q_Ref_first a0) = (2 : Int32) then (32 : Int32) else (64 : Int32))) (0 : Int32) (0 : Int64) (0 : Int32) a1 (if (172 : Int32) ≤ a0 then (64 : Int32) else (32 : Int32)) (if (a0 - a0 / (2 : Int32) * (2 : Int32)) = 0 then (1 : Int32) else (0 : Int32)))
    else
      if a0 < (174 : Int32) then
        if a0 = (172 : Int32) then
          (if (if (a0 - a0 / (2 : Int32) * (2 : Int32)) = 0 then (1 : Int32) else (0 : Int32)) = 0 then a1 else (q_Ref_withSign a1 (32 : Int32)))
        else
          if a0 = (173 : Int32) then
            (if (if (a0 - a0 / (2 : Int32) * (2 : Int32)) = 0 then (1 : Int32) else (0 : Int32)) = 0 then a1 else (q_Ref_withSign a1 (32 : Int32)))
          else
            if a0 = (178 : Int32) then
              (q_Ref_floating (fF (32 : Int32)) (fB (32 : Int32)) (q_Ref_format_wi (32 : Int32)) (if (if (a0 - a0 / (2 : Int32) * (2 : Int32)) = 0 then (1 : Int32) else (0 : Int32)) = 0 then a1 else (if (180 : Int32) ≤ a0 then a1 else (q_Ref_withSign a1 (32 : Int32)))) (if (a0 - a0 / (2 : Int32) * (2 : Int32)) = 0 then (1 : Int32) else (0 : Int32)))
            else
              if a0 = (179 : Int32) then
                (q_Ref_floating (fF (32 : Int32)) (fB (32 : Int32)) (q_Ref_format_wi (32 : Int32)) (if (if (a0 - a0 / (2 : Int32) * (2 : Int32)) = 0 then (1 : Int32) else (0 : Int32)) = 0 then a1 else (if (180 : Int32) ≤ a0 then a1 else (q_Ref_withSign a1 (32 : Int32)))) (if (a0 - a0 / (2 : Int32) * (2 : Int32)) = 0 then (1 : Int32) else (0 : Int32)))
              else
                if a0 = (180 : Int32) then
                  (q_Ref_floating (fF (32 : Int32)) (fB (32 : Int32)) (q_Ref_format_wi (32 : Int32)) (if (if (a0 - a0 / (2 : Int32) * (2 : Int32)) = 0 then (1 : Int32) else (0 : Int32)) = 0 then a1 else (if (180 : Int32) ≤ a0 then a1 else (q_Ref_withSign a1 (32 : Int32)))) (if (a0 - a0 / (2 : Int32) * (2 : Int32)) = 0 then (1 : Int32) else (0 : Int32)))
                else
                  if a0 = (181 : Int32) then
                    (q_Ref_floating (fF (32 : Int32)) (fB (32 : Int32)) (q_Ref_format_wi (32 : Int32)) (if (if (a0 - a0 / (2 : Int32) * (2 : Int32)) = 0 then (1 : Int32) else (0 : Int32)) = 0 then a1 else (if (180 : Int32) ≤ a0 then a1 else (q_Ref_withSign a1 (32 : Int32)))) (if (a0 - a0 / (2 : Int32) * (2 : Int32)) = 0 then (1 : Int32) else (0 : Int32)))
                  else
                    if a0 = (182 : Int32) then
                      (q_Ref_reformed (fF (if a0 = (182 : Int32) then (64 : Int32) else (32 : Int32))) (fB (if a0 = (182 : Int32) then (64 : Int32) else (32 : Int32))) (fF (if a0 = (182 : Int32) then (32 : Int32) else (64 : Int32))) (fB (if a0 = (182 : Int32) then (32 : Int32) else (64 : Int32))) (q_Ref_format_wi (if a0 = (182 : Int32) then (64 : Int32) else (32 : Int32))) (q_Ref_format_fr (if a0 = (182 : Int32) then (64 : Int32) else (32 : Int32))) (q_Ref_format_bi (if a0 = (182 : Int32) then (64 : Int32) else (32 : Int32))) a1 (if a0 = (182 : Int32) then (32 : Int32) else (64 : Int32)))
                    else
                      if a0 = (183 : Int32) then
                        (q_Ref_floating (fF (64 : Int32)) (fB (64 : Int32)) (q_Ref_format_wi (64 : Int32)) (if a0 = (183 : Int32) then (q_Ref_withSign a1 (32 : Int32)) else a1) (if (if (a0 - a0 / (2 : Int32) * (2 : Int32)) = 0 then (1 : Int32) else (0 : Int32)) = 0 then (1 : Int32) else (0 : Int32)))
                      else
                        if a0 = (184 : Int32) then
                          (q_Ref_floating (fF (64 : Int32)) (fB (64 : Int32)) (q_Ref_format_wi (64 : Int32)) (if a0 = (183 : Int32) then (q_Ref_withSign a1 (32 : Int32)) else a1) (if (if (a0 - a0 / (2 : Int32) * (2 : Int32)) = 0 then (1 : Int32) else (0 : Int32)) = 0 then (1 : Int32) else (0 : Int32)))
                        else
                          if a0 = (185 : Int32) then
                            (q_Ref_floating (fF (64 : Int32)) (fB (64 : Int32)) (q_Ref_format_wi (64 : Int32)) (if a0 = (183 : Int32) then (q_Ref_withSign a1 (32 : Int32)) else a1) (if (if (a0 - a0 / (2 : Int32) * (2 : Int32)) = 0 then (1 : Int32) else (0 : Int32)) = 0 then (1 : Int32) else (0 : Int32)))
                          else
                            if a0 = (186 : Int32) then
                              (q_Ref_floating (fF (64 : Int32)) (fB (64 : Int32)) (q_Ref_format_wi (64 : Int32)) (if a0 = (183 : Int32) then (q_Ref_withSign a1 (32 : Int32)) else a1) (if (if (a0 - a0 / (2 : Int32) * (2 : Int32)) = 0 then (1 : Int32) else (0 : Int32)) = 0 then (1 : Int32) else (0 : Int32)))
                            else
                              if a0 = (187 : Int32) then
                                (q_Ref_reformed (fF (if a0 = (182 : Int32) then (64 : Int32) else (32 : Int32))) (fB (if a0 = (182 : Int32) then (64 : Int32) else (32 : Int32))) (fF (if a0 = (182 : Int32) then (32 : Int32) else (64 : Int32))) (fB (if a0 = (182 : Int32) then (32 : Int32) else (64 : Int32))) (q_Ref_format_wi (if a0 = (182 : Int32) then (64 : Int32) else (32 : Int32))) (q_Ref_format_fr (if a0 = (182 : Int32) then (64 : Int32) else (32 : Int32))) (q_Ref_format_bi (if a0 = (182 : Int32) then (64 : Int32) else (32 : Int32))) a1 (if a0 = (182 : Int32) then (32 : Int32) else (64 : Int32)))
                              else
                                a1
      else
        if (177 : Int32) < a0 then
          if a0 = (172 : Int32) then
            (if (if (a0 - a0 / (2 : Int32) * (2 : Int32)) = 0 then (1 : Int32) else (0 : Int32)) = 0 then a1 else (q_Ref_withSign a1 (32 : Int32)))
          else
            if a0 = (173 : Int32) then
              (if (if (a0 - a0 / (2 : Int32) * (2 : Int32)) = 0 then (1 : Int32) else (0 : Int32)) = 0 then a1 else (q_Ref_withSign a1 (32 : Int32)))
            else
              if a0 = (178 : Int32) then
                (q_Ref_floating (fF (32 : Int32)) (fB (32 : Int32)) (q_Ref_format_wi (32 : Int32)) (if (if (a0 - a0 / (2 : Int32) * (2 : Int32)) = 0 then (1 : Int32) else (0 : Int32)) = 0 then a1 else (if (180 : Int32) ≤ a0 then a1 else (q_Ref_withSign a1 (32 : Int32)))) (if (a0 - a0 / (2 : Int32) * (2 : Int32)) = 0 then (1 : Int32) else (0 : Int32)))
              else
                if a0 = (179 : Int32) then
                  (q_Ref_floating (fF (32 : Int32)) (fB (32 : Int32)) (q_Ref_format_wi (32 : Int32)) (if (if (a0 - a0 / (2 : Int32) * (2 : Int32)) = 0 then (1 : Int32) else (0 : Int32)) = 0 then a1 else (if (180 : Int32) ≤ a0 then a1 else (q_Ref_withSign a1 (32 : Int32)))) (if (a0 - a0 / (2 : Int32) * (2 : Int32)) = 0 then (1 : Int32) else (0 : Int32)))
                else
                  if a0 = (180 : Int32) then
                    (q_Ref_floating (fF (32 : Int32)) (fB (32 : Int32)) (q_Ref_format_wi (32 : Int32)) (if (if (a0 - a0 / (2 : Int32) * (2 : Int32)) = 0 then (1 : Int32) else (0 : Int32)) = 0 then a1 else (if (180 : Int32) ≤ a0 then a1 else (q_Ref_withSign a1 (32 : Int32)))) (if (a0 - a0 / (2 : Int32) * (2 : Int32)) = 0 then (1 : Int32) else (0 : Int32)))
                  else
                    if a0 = (181 : Int32) then
                      (q_Ref_floating (fF (32 : Int32)) (fB (32 : Int32)) (q_Ref_format_wi (32 : Int32)) (if (if (a0 - a0 / (2 : Int32) * (2 : Int32)) = 0 then (1 : Int32) else (0 : Int32)) = 0 then a1 else (if (180 : Int32) ≤ a0 then a1 else (q_Ref_withSign a1 (32 : Int32)))) (if (a0 - a0 / (2 : Int32) * (2 : Int32)) = 0 then (1 : Int32) else (0 : Int32)))
                    else
                      if a0 = (182 : Int32) then
                        (q_Ref_reformed (fF (if a0 = (182 : Int32) then (64 : Int32) else (32 : Int32))) (fB (if a0 = (182 : Int32) then (64 : Int32) else (32 : Int32))) (fF (if a0 = (182 : Int32) then (32 : Int32) else (64 : Int32))) (fB (if a0 = (182 : Int32) then (32 : Int32) else (64 : Int32))) (q_Ref_format_wi (if a0 = (182 : Int32) then (64 : Int32) else (32 : Int32))) (q_Ref_format_fr (if a0 = (182 : Int32) then (64 : Int32) else (32 : Int32))) (q_Ref_format_bi (if a0 = (182 : Int32) then (64 : Int32) else (32 : Int32))) a1 (if a0 = (182 : Int32) then (32 : Int32) else (64 : Int32)))
                      else
                        if a0 = (183 : Int32) then
                          (q_Ref_floating (fF (64 : Int32)) (fB (64 : Int32)) (q_Ref_format_wi (64 : Int32)) (if a0 = (183 : Int32) then (q_Ref_withSign a1 (32 : Int32)) else a1) (if (if (a0 - a0 / (2 : Int32) * (2 : Int32)) = 0 then (1 : Int32) else (0 : Int32)) = 0 then (1 : Int32) else (0 : Int32)))
                        else
                          if a0 = (184 : Int32) then
                            (q_Ref_floating (fF (64 : Int32)) (fB (64 : Int32)) (q_Ref_format_wi (64 : Int32)) (if a0 = (183 : Int32) then (q_Ref_withSign a1 (32 : Int32)) else a1) (if (if (a0 - a0 / (2 : Int32) * (2 : Int32)) = 0 then (1 : Int32) else (0 : Int32)) = 0 then (1 : Int32) else (0 : Int32)))
                          else
                            if a0 = (185 : Int32) then
                              (q_Ref_floating (fF (64 : Int32)) (fB (64 : Int32)) (q_Ref_format_wi (64 : Int32)) (if a0 = (183 : Int32) then (q_Ref_withSign a1 (32 : Int32)) else a1) (if (if (a0 - a0 / (2 : Int32) * (2 : Int32)) = 0 then (1 : Int32) else (0 : Int32)) = 0 then (1 : Int32) else (0 : Int32)))
                            else
                              if a0 = (186 : Int32) then
                                (q_Ref_floating (fF (64 : Int32)) (fB (64 : Int32)) (q_Ref_format_wi (64 : Int32)) (if a0 = (183 : Int32) then (q_Ref_withSign a1 (32 : Int32)) else a1) (if (if (a0 - a0 / (2 : Int32) * (2 : Int32)) = 0 then (1 : Int32) else (0 : Int32)) = 0 then (1 : Int32) else (0 : Int32)))
                              else
                                if a0 = (187 : Int32) then
                                  (q_Ref_reformed (fF (if a0 = (182 : Int32) then (64 : Int32) else (32 : Int32))) (fB (if a0 = (182 : Int32) then (64 : Int32) else (32 : Int32))) (fF (if a0 = (182 : Int32) then (32 : Int32) else (64 : Int32))) (fB (if a0 = (182 : Int32) then (32 : Int32) else (64 : Int32))) (q_Ref_format_wi (if a0 = (182 : Int32) then (64 : Int32) else (32 : Int32))) (q_Ref_format_fr (if a0 = (182 : Int32) then (64 : Int32) else (32 : Int32))) (q_Ref_format_bi (if a0 = (182 : Int32) then (64 : Int32) else (32 : Int32))) a1 (if a0 = (182 : Int32) then (32 : Int32) else (64 : Int32)))
                                else
                                  a1
        else
          (q_Ref_cut cd (q_Ref_format_wi (if (q_Ref_first a0) = (2 : Int32) then (32 : Int32) else (64 : Int32))) (q_Ref_format_fr (if (q_Ref_first a0) = (2 : Int32) then (32 : Int32) else (64 : Int32))) (q_Ref_format_bi (if (q_Ref_first a0) = (2 : Int32) then (32 : Int32) else (64 : Int32))) (0 : Int32) (0 : Int64) (0 : Int32) a1 (if (172 : Int32) ≤ a0 then (64 : Int32) else (32 : Int32)) (if (a0 - a0 / (2 : Int32) * (2 : Int32)) = 0 then (1 : Int32) else (0 : Int32)))
def q_Ref_turnedInto_cd (cd : Int32) (a0 : Int32) (a1 : Int64) : Int32 :=
  if a0 < (168 : Int32) then
    if a0 < (174 : Int32) then
      if a0 = (172 : Int32) then
        cd
      else
        if a0 = (173 : Int32) then
          cd
        else
          if a0 = (178 : Int32) then
            cd
          else
            if a0 = (179 : Int32) then
              cd
            else
              if a0 = (180 : Int32) then
                cd
              else
                if a0 = (181 : Int32) then
                  cd
                else
                  if a0 = (182 : Int32) then
                    cd
                  else
                    if a0 = (183 : Int32) then
                      cd
                    else
                      if a0 = (184 : Int32) then
                        cd
                      else
                        if a0 = (185 : Int32) then
                          cd
                        else
                          if a0 = (186 : Int32) then
                            cd
                          else
                            if a0 = (187 : Int32) then
                              cd
                            else
                              cd
    else
      if (177 : Int32) < a0 then
        if a0 = (172 : Int32) then
          cd
        else
          if a0 = (173 : Int32) then
            cd
          else
            if a0 = (178 : Int32) then
              cd
            else
              if a0 = (179 : Int32) then
                cd
              else
                if a0 = (180 : Int32) then
                  cd
                else
                  if a0 = (181 : Int32) then
                    cd
                  else
                    if a0 = (182 : Int32) then
                      cd
                    else
                      if a0 = (183 : Int32) then
                        cd
                      else
                        if a0 = (184 : Int32) then
                          cd
                        else
                          if a0 = (185 : Int32) then
                            cd
                          else
                            if a0 = (186 : Int32) then
                              cd
                            else
                              if a0 = (187 : Int32) then
                                cd
                              else
                                cd
      else
        (q_Ref_cut_cd cd (q_Ref_format_wi (if (q_Ref_first a0) = (2 : Int32) then (32 : Int32) else (64 : Int32))) (q_Ref_format_fr (if (q_Ref_first a0) = (2 : Int32) then (32 : Int32) else (64 : Int32))) (q_Ref_format_bi (if (q_Ref_first a0) = (2 : Int32) then (32 : Int32) else (64 : Int32))) (0 : Int32) (0 : Int64) (0 : Int32) a1 (if (172 : Int32) ≤ a0 then (64 : Int32) else (32 : Int32)) (if (a0 - a0 / (2 : Int32) * (2 : Int32)) = 0 then (1 : Int32) else (0 : Int32)))
  else
    if a0 ≤ (171 : Int32) then
      (q_Ref_cut_cd cd (q_Ref_format_wi (if (q_Ref_first a0) = (2 : Int32) then (32 : Int32) else (64 : Int32))) (q_Ref_format_fr (if (q_Ref_first a0) = (2 : Int32) then (32 : Int32) else (64 : Int32))) (q_Ref_format_bi (if (q_Ref_first a0) = (2 : Int32) then (32 : Int32) else (64 : Int32))) (0 : Int32) (0 : Int64) (0 : Int32) a1 (if (172 : Int32) ≤ a0 then (64 : Int32) else (32 : Int32)) (if (a0 - a0 / (2 : Int32) * (2 : Int32)) = 0 then (1 : Int32) else (0 : Int32)))
    else
      if a0 < (174 : Int32) then
        if a0 = (172 : Int32) then
          cd
        else
          if a0 = (173 : Int32) then
            cd
          else
            if a0 = (178 : Int32) then
              cd
            else
              if a0 = (179 : Int32) then
                cd
              else
                if a0 = (180 : Int32) then
                  cd
                else
                  if a0 = (181 : Int32) then
                    cd
                  else
                    if a0 = (182 : Int32) then
                      cd
                    else
                      if a0 = (183 : Int32) then
                        cd
                      else
                        if a0 = (184 : Int32) then
                          cd
                        else
                          if a0 = (185 : Int32) then
                            cd
                          else
                            if a0 = (186 : Int32) then
                              cd
                            else
                              if a0 = (187 : Int32) then
                                cd
                              else
                                cd
      else
        if (177 : Int32) < a0 then
          if a0 = (172 : Int32) then
            cd
          else
            if a0 = (173 : Int32) then
              cd
            else
              if a0 = (178 : Int32) then
                cd
              else
                if a0 = (179 : Int32) then
                  cd
                else
                  if a0 = (180 : Int32) then
                    cd
                  else
                    if a0 = (181 : Int32) then
                      cd
                    else
                      if a0 = (182 : Int32) then
                        cd
                      else
                        if a0 = (183 : Int32) then
                          cd
                        else
                          if a0 = (184 : Int32) then
                            cd
                          else
                            if a0 = (185 : Int32) then
                              cd
                            else
                              if a0 = (186 : Int32) then
                                cd
                              else
                                if a0 = (187 : Int32) then
                                  cd
                                else
                                  cd
        else
          (q_Ref_cut_cd cd (q_Ref_format_wi (if (q_Ref_first a0) = (2 : Int32) then (32 : Int32) else (64 : Int32))) (q_Ref_format_fr (if (q_Ref_first a0) = (2 : Int32) then (32 : Int32) else (64 : Int32))) (q_Ref_format_bi (if (q_Ref_first a0) = (2 : Int32) then (32 : Int32) else (64 : Int32))) (0 : Int32) (0 : Int64) (0 : Int32) a1 (if (172 : Int32) ≤ a0 then (64 : Int32) else (32 : Int32)) (if (a0 - a0 / (2 : Int32) * (2 : Int32)) = 0 then (1 : Int32) else (0 : Int32)))
theorem kB_Ref_turnedInto : RB y_Ref_turnedInto b_Ref_turnedInto 5 (some .long) 2 := ⟨wt_557, wt_556, wt_2, wt_36, by decide +kernel⟩
set_option maxHeartbeats 4000000 in
set_option maxRecDepth 100000 in
theorem c_Ref_turnedInto (l : Launch) (A : Nat → Prop) (ad : Nat → Nat) (D : va_G) (cB cJ : ClassId) (o r : Nat) (hne : o ≠ r) (hA : ∀ q, rA o r q → A q) (cd : Int32) (la : Int64) (lo : Int32) (hi : Int32) (re : Int32) (wi : Int32) (fr : Int32) (bi : Int32) (mi : Int32) (am : Int64) (we : Int32) (f : Nat → Int32) (N : Nat) (hf : RowIs f N) (hI : RI lo hi N) (hre : re = 0 ∨ re = 1) (a0 : Int32) (a1 : Int64) : Met l y_Ref_turnedInto (Cond.code y_Ref_turnedInto b_Ref_turnedInto 5 (some .long) :: BT) ({ frames := 4, cells := 0, slots := 0, locals := 100 }) (PR A ad D cB cJ o r (rf_ cd la r lo hi re wi fr bi mi am we) f [.int a0, .long a1]) (QP D cB o r (fun v fs' f' => v = some (.long (q_Ref_turnedInto cd a0 a1)) ∧ SJ r (q_Ref_turnedInto_cd cd a0 a1) la fs' f')) 0 0 (rA o r) := by
  refine pr_ (by decide) (Nat.le_of_ble_eq_true rfl) ?_
  intro p e s m below meth c hq hP hS hr hk ls hl
  have hx := hq.1
  have hb := hq.2.1
  have hts := hq.2.2.2.2.1
  have hl : lv_has ls 5 [(0, .ref o), (1, .int a0), (2, .long a1)] := hl
  refine lv_iload_n hx hb d_Ref_turnedInto_0 rfl (lv_at hl 1 rfl) ?_
  refine lv_iconst (v := (2 : Int32)) hx hb d_Ref_turnedInto_1 (by decide) ?_
  refine lv_irem hx hb d_Ref_turnedInto_2 (by decide) ?_
  refine jn_ (J := 11) (ls := ls) (v := .int (if (a0 - a0 / (2 : Int32) * (2 : Int32)) = 0 then (1 : Int32) else (0 : Int32))) (rest := []) (fun hj => ?_) ?_
  · refine lv_if_ne (tgt := 10) hx hb d_Ref_turnedInto_3 (by decide) (fun c_1 => ?_) (fun c_1 => ?_)
    · refine lv_iconst (v := (0 : Int32)) hx hb d_Ref_turnedInto_10 (by decide) ?_
      exact (by rw [if_neg c_1] at hj; exact hj)
    · refine lv_iconst (v := (1 : Int32)) hx hb d_Ref_turnedInto_6 (by decide) ?_
      refine lv_goto (tgt := 11) hx hb d_Ref_turnedInto_7 (by decide) ?_
      exact (by rw [if_pos c_1] at hj; exact hj)
  refine lv_istore (lv' := [(4, .int (if (a0 - a0 / (2 : Int32) * (2 : Int32)) = 0 then (1 : Int32) else (0 : Int32))), (0, .ref o), (1, .int a0), (2, .long a1)]) hx hb d_Ref_turnedInto_11 hl (by decide) rfl (fun ls hl => ?_)
  refine lv_iload_n hx hb d_Ref_turnedInto_13 rfl (lv_at hl 2 rfl) ?_
  refine lv_sipush (v := (168 : Int32)) hx hb d_Ref_turnedInto_14 (by decide) ?_
  refine lv_icmp_lt (tgt := 27) hx hb d_Ref_turnedInto_17 (by decide) (fun c_2 => ?_) (fun c_2 => ?_)
  · refine lv_iload_n hx hb d_Ref_turnedInto_27 rfl (lv_at hl 2 rfl) ?_
    refine lv_sipush (v := (174 : Int32)) hx hb d_Ref_turnedInto_28 (by decide) ?_
    refine lv_icmp_lt (tgt := 82) hx hb d_Ref_turnedInto_31 (by decide) (fun c_3 => ?_) (fun c_3 => ?_)
    · refine lv_iload_n hx hb d_Ref_turnedInto_82 rfl (lv_at hl 2 rfl) ?_
      by_cases c_4 : a0 = (172 : Int32)
      · refine lv_tableIn (tgt := 160) hx hb d_Ref_turnedInto_83 (by rw [c_4]; decide) (by rw [c_4]; decide) (by rw [c_4]; rfl) (by decide) ?_
        refine lv_iload hx hb d_Ref_turnedInto_160 (lv_at hl 0 rfl) ?_
        refine jn_ (J := 175) (ls := ls) (v := .long (if (if (a0 - a0 / (2 : Int32) * (2 : Int32)) = 0 then (1 : Int32) else (0 : Int32)) = 0 then a1 else (q_Ref_withSign a1 (32 : Int32)))) (rest := []) (fun hj => ?_) ?_
        · refine lv_if_eq (tgt := 174) hx hb d_Ref_turnedInto_162 (by decide) (fun c_5 => ?_) (fun c_5 => ?_)
          · refine lv_lload_n hx hb d_Ref_turnedInto_174 rfl (lv_at hl 3 rfl) ?_
            exact (by rw [if_pos c_5] at hj; exact hj)
          · refine lv_lload_n hx hb d_Ref_turnedInto_165 rfl (lv_at hl 3 rfl) ?_
            refine lv_bipush (v := (32 : Int32)) hx hb d_Ref_turnedInto_166 (by decide) ?_
            refine hl_ (As := [.long a1, .int (32 : Int32)]) (rest := []) hq hA hS (c_Ref_withSign l A ad a1 (32 : Int32)) kB_Ref_withSign wt_600 ⟨rfl, rfl, Nat.le_of_ble_eq_true rfl, Nat.le_of_ble_eq_true rfl⟩ rfl hl.1 rfl (Nat.le_of_ble_eq_true rfl) d_Ref_turnedInto_168 ⟨Nat.zero_le _, Nat.zero_le _⟩ ?_
            refine lv_goto (tgt := 175) hx hb d_Ref_turnedInto_171 (by decide) ?_
            exact (by rw [if_neg c_5] at hj; exact hj)
        exact qr_l hq hr hk hP hS ⟨congrArg (fun z => some (Value.long z)) (by unfold q_Ref_turnedInto; exact (((if_pos c_2).trans ((if_pos c_3).trans ((if_pos c_4).trans rfl)))).symm), _, _, _, _, _, _, _, _, _, _, (by rw [show q_Ref_turnedInto_cd cd a0 a1 = cd from by unfold q_Ref_turnedInto_cd; exact ((if_pos c_2).trans ((if_pos c_3).trans ((if_pos c_4).trans rfl)))]; first | done | rfl), hre, hf, hI⟩ d_Ref_turnedInto_175
      by_cases c_6 : a0 = (173 : Int32)
      · refine lv_tableIn (tgt := 160) hx hb d_Ref_turnedInto_83 (by rw [c_6]; decide) (by rw [c_6]; decide) (by rw [c_6]; rfl) (by decide) ?_
        refine lv_iload hx hb d_Ref_turnedInto_160 (lv_at hl 0 rfl) ?_
        refine jn_ (J := 175) (ls := ls) (v := .long (if (if (a0 - a0 / (2 : Int32) * (2 : Int32)) = 0 then (1 : Int32) else (0 : Int32)) = 0 then a1 else (q_Ref_withSign a1 (32 : Int32)))) (rest := []) (fun hj => ?_) ?_
        · refine lv_if_eq (tgt := 174) hx hb d_Ref_turnedInto_162 (by decide) (fun c_7 => ?_) (fun c_7 => ?_)
          · refine lv_lload_n hx hb d_Ref_turnedInto_174 rfl (lv_at hl 3 rfl) ?_
            exact (by rw [if_pos c_7] at hj; exact hj)
          · refine lv_lload_n hx hb d_Ref_turnedInto_165 rfl (lv_at hl 3 rfl) ?_
            refine lv_bipush (v := (32 : Int32)) hx hb d_Ref_turnedInto_166 (by decide) ?_
            refine hl_ (As := [.long a1, .int (32 : Int32)]) (rest := []) hq hA hS (c_Ref_withSign l A ad a1 (32 : Int32)) kB_Ref_withSign wt_600 ⟨rfl, rfl, Nat.le_of_ble_eq_true rfl, Nat.le_of_ble_eq_true rfl⟩ rfl hl.1 rfl (Nat.le_of_ble_eq_true rfl) d_Ref_turnedInto_168 ⟨Nat.zero_le _, Nat.zero_le _⟩ ?_
            refine lv_goto (tgt := 175) hx hb d_Ref_turnedInto_171 (by decide) ?_
            exact (by rw [if_neg c_7] at hj; exact hj)
        exact qr_l hq hr hk hP hS ⟨congrArg (fun z => some (Value.long z)) (by unfold q_Ref_turnedInto; exact (((if_pos c_2).trans ((if_pos c_3).trans ((if_neg c_4).trans ((if_pos c_6).trans rfl))))).symm), _, _, _, _, _, _, _, _, _, _, (by rw [show q_Ref_turnedInto_cd cd a0 a1 = cd from by unfold q_Ref_turnedInto_cd; exact ((if_pos c_2).trans ((if_pos c_3).trans ((if_neg c_4).trans ((if_pos c_6).trans rfl))))]; first | done | rfl), hre, hf, hI⟩ d_Ref_turnedInto_175
      by_cases c_8 : a0 = (178 : Int32)
      · refine lv_tableIn (tgt := 176) hx hb d_Ref_turnedInto_83 (by rw [c_8]; decide) (by rw [c_8]; decide) (by rw [c_8]; rfl) (by decide) ?_
        refine lv_aload_n hx hb d_Ref_turnedInto_176 rfl (lv_at hl 1 rfl) ?_
        refine lv_bipush (v := (32 : Int32)) hx hb d_Ref_turnedInto_177 (by decide) ?_
        refine rv_v (As := [.int (32 : Int32)]) (rest := []) hq hA hP hS (c_Ref_format l A ad D cB cJ o r hne hA cd la lo hi re wi fr bi mi am we f (32 : Int32)) kB_Ref_format wt_558 ⟨rfl, rfl, Nat.le_of_ble_eq_true rfl, Nat.le_of_ble_eq_true rfl⟩ rfl hl.1 rfl (Nat.le_of_ble_eq_true rfl) d_Ref_turnedInto_179 ⟨Nat.zero_le _, Nat.zero_le _⟩ (fun H locs hP hS => ?_)
        refine lv_aload_n hx hb d_Ref_turnedInto_182 rfl (lv_at hl 1 rfl) ?_
        refine lv_iload hx hb d_Ref_turnedInto_183 (lv_at hl 0 rfl) ?_
        refine jn_ (J := 205) (ls := ls) (v := .long (if (if (a0 - a0 / (2 : Int32) * (2 : Int32)) = 0 then (1 : Int32) else (0 : Int32)) = 0 then a1 else (if (180 : Int32) ≤ a0 then a1 else (q_Ref_withSign a1 (32 : Int32))))) (rest := [.ref o]) (fun hj => ?_) ?_
        · refine lv_if_eq (tgt := 204) hx hb d_Ref_turnedInto_185 (by decide) (fun c_9 => ?_) (fun c_9 => ?_)
          · refine lv_lload_n hx hb d_Ref_turnedInto_204 rfl (lv_at hl 3 rfl) ?_
            exact (by rw [if_pos c_9] at hj; exact hj)
          · refine lv_iload_n hx hb d_Ref_turnedInto_188 rfl (lv_at hl 2 rfl) ?_
            refine lv_sipush (v := (180 : Int32)) hx hb d_Ref_turnedInto_189 (by decide) ?_
            refine jn_ (J := 205) (ls := ls) (v := .long (if (180 : Int32) ≤ a0 then a1 else (q_Ref_withSign a1 (32 : Int32)))) (rest := [.ref o]) (fun hj => ?_) ?_
            · refine lv_icmp_ge (tgt := 204) hx hb d_Ref_turnedInto_192 (by decide) (fun c_10 => ?_) (fun c_10 => ?_)
              · refine lv_lload_n hx hb d_Ref_turnedInto_204 rfl (lv_at hl 3 rfl) ?_
                exact (by rw [if_pos c_10] at hj; exact hj)
              · refine lv_lload_n hx hb d_Ref_turnedInto_195 rfl (lv_at hl 3 rfl) ?_
                refine lv_bipush (v := (32 : Int32)) hx hb d_Ref_turnedInto_196 (by decide) ?_
                refine hl_ (As := [.long a1, .int (32 : Int32)]) (rest := [.ref o]) hq hA hS (c_Ref_withSign l A ad a1 (32 : Int32)) kB_Ref_withSign wt_600 ⟨rfl, rfl, Nat.le_of_ble_eq_true rfl, Nat.le_of_ble_eq_true rfl⟩ rfl hl.1 rfl (Nat.le_of_ble_eq_true rfl) d_Ref_turnedInto_198 ⟨Nat.zero_le _, Nat.zero_le _⟩ ?_
                refine lv_goto (tgt := 205) hx hb d_Ref_turnedInto_201 (by decide) ?_
                exact (by rw [if_neg c_10] at hj; exact hj)
            exact (by rw [if_neg c_9] at hj; exact hj)
        refine lv_iload hx hb d_Ref_turnedInto_205 (lv_at hl 0 rfl) ?_
        refine rq_ (As := [.long (if (if (a0 - a0 / (2 : Int32) * (2 : Int32)) = 0 then (1 : Int32) else (0 : Int32)) = 0 then a1 else (if (180 : Int32) ≤ a0 then a1 else (q_Ref_withSign a1 (32 : Int32)))), .int (if (a0 - a0 / (2 : Int32) * (2 : Int32)) = 0 then (1 : Int32) else (0 : Int32))]) (rest := []) hq hA hP hS (c_Ref_floating l A ad D cB cJ o r hne hA cd la lo hi re (q_Ref_format_wi (32 : Int32)) (q_Ref_format_fr (32 : Int32)) (q_Ref_format_bi (32 : Int32)) mi am we f N hf hI hre (if (if (a0 - a0 / (2 : Int32) * (2 : Int32)) = 0 then (1 : Int32) else (0 : Int32)) = 0 then a1 else (if (180 : Int32) ≤ a0 then a1 else (q_Ref_withSign a1 (32 : Int32)))) (if (a0 - a0 / (2 : Int32) * (2 : Int32)) = 0 then (1 : Int32) else (0 : Int32)) (fF (32 : Int32)) (fB (32 : Int32)) (fm_of (Or.inl rfl))) kB_Ref_floating wt_603 ⟨rfl, rfl, Nat.le_of_ble_eq_true rfl, Nat.le_of_ble_eq_true rfl⟩ rfl hl.1 rfl (Nat.le_of_ble_eq_true rfl) d_Ref_turnedInto_207 ⟨Nat.zero_le _, Nat.zero_le _⟩ (fun v9 fs9 f_11 H locs hk9 hP hS => ?_)
        obtain ⟨rfl, lo_11, hi_11, re_11, wi_11, fr_11, bi_11, mi_11, am_11, we_11, N_11, rfl, hre_11, hf_11, hI_11⟩ := hk9
        exact qr_l hq hr hk hP hS ⟨congrArg (fun z => some (Value.long z)) (by unfold q_Ref_turnedInto; exact (((if_pos c_2).trans ((if_pos c_3).trans ((if_neg c_4).trans ((if_neg c_6).trans ((if_pos c_8).trans rfl)))))).symm), _, _, _, _, _, _, _, _, _, _, (by rw [show q_Ref_turnedInto_cd cd a0 a1 = cd from by unfold q_Ref_turnedInto_cd; exact ((if_pos c_2).trans ((if_pos c_3).trans ((if_neg c_4).trans ((if_neg c_6).trans ((if_pos c_8).trans rfl)))))]; first | done | rfl), hre_11, hf_11, hI_11⟩ d_Ref_turnedInto_210
      by_cases c_12 : a0 = (179 : Int32)
      · refine lv_tableIn (tgt := 176) hx hb d_Ref_turnedInto_83 (by rw [c_12]; decide) (by rw [c_12]; decide) (by rw [c_12]; rfl) (by decide) ?_
        refine lv_aload_n hx hb d_Ref_turnedInto_176 rfl (lv_at hl 1 rfl) ?_
        refine lv_bipush (v := (32 : Int32)) hx hb d_Ref_turnedInto_177 (by decide) ?_
        refine rv_v (As := [.int (32 : Int32)]) (rest := []) hq hA hP hS (c_Ref_format l A ad D cB cJ o r hne hA cd la lo hi re wi fr bi mi am we f (32 : Int32)) kB_Ref_format wt_558 ⟨rfl, rfl, Nat.le_of_ble_eq_true rfl, Nat.le_of_ble_eq_true rfl⟩ rfl hl.1 rfl (Nat.le_of_ble_eq_true rfl) d_Ref_turnedInto_179 ⟨Nat.zero_le _, Nat.zero_le _⟩ (fun H locs hP hS => ?_)
        refine lv_aload_n hx hb d_Ref_turnedInto_182 rfl (lv_at hl 1 rfl) ?_
        refine lv_iload hx hb d_Ref_turnedInto_183 (lv_at hl 0 rfl) ?_
        refine jn_ (J := 205) (ls := ls) (v := .long (if (if (a0 - a0 / (2 : Int32) * (2 : Int32)) = 0 then (1 : Int32) else (0 : Int32)) = 0 then a1 else (if (180 : Int32) ≤ a0 then a1 else (q_Ref_withSign a1 (32 : Int32))))) (rest := [.ref o]) (fun hj => ?_) ?_
        · refine lv_if_eq (tgt := 204) hx hb d_Ref_turnedInto_185 (by decide) (fun c_13 => ?_) (fun c_13 => ?_)
          · refine lv_lload_n hx hb d_Ref_turnedInto_204 rfl (lv_at hl 3 rfl) ?_
            exact (by rw [if_pos c_13] at hj; exact hj)
          · refine lv_iload_n hx hb d_Ref_turnedInto_188 rfl (lv_at hl 2 rfl) ?_
            refine lv_sipush (v := (180 : Int32)) hx hb d_Ref_turnedInto_189 (by decide) ?_
            refine jn_ (J := 205) (ls := ls) (v := .long (if (180 : Int32) ≤ a0 then a1 else (q_Ref_withSign a1 (32 : Int32)))) (rest := [.ref o]) (fun hj => ?_) ?_
            · refine lv_icmp_ge (tgt := 204) hx hb d_Ref_turnedInto_192 (by decide) (fun c_14 => ?_) (fun c_14 => ?_)
              · refine lv_lload_n hx hb d_Ref_turnedInto_204 rfl (lv_at hl 3 rfl) ?_
                exact (by rw [if_pos c_14] at hj; exact hj)
              · refine lv_lload_n hx hb d_Ref_turnedInto_195 rfl (lv_at hl 3 rfl) ?_
                refine lv_bipush (v := (32 : Int32)) hx hb d_Ref_turnedInto_196 (by decide) ?_
                refine hl_ (As := [.long a1, .int (32 : Int32)]) (rest := [.ref o]) hq hA hS (c_Ref_withSign l A ad a1 (32 : Int32)) kB_Ref_withSign wt_600 ⟨rfl, rfl, Nat.le_of_ble_eq_true rfl, Nat.le_of_ble_eq_true rfl⟩ rfl hl.1 rfl (Nat.le_of_ble_eq_true rfl) d_Ref_turnedInto_198 ⟨Nat.zero_le _, Nat.zero_le _⟩ ?_
                refine lv_goto (tgt := 205) hx hb d_Ref_turnedInto_201 (by decide) ?_
                exact (by rw [if_neg c_14] at hj; exact hj)
            exact (by rw [if_neg c_13] at hj; exact hj)
        refine lv_iload hx hb d_Ref_turnedInto_205 (lv_at hl 0 rfl) ?_
        refine rq_ (As := [.long (if (if (a0 - a0 / (2 : Int32) * (2 : Int32)) = 0 then (1 : Int32) else (0 : Int32)) = 0 then a1 else (if (180 : Int32) ≤ a0 then a1 else (q_Ref_withSign a1 (32 : Int32)))), .int (if (a0 - a0 / (2 : Int32) * (2 : Int32)) = 0 then (1 : Int32) else (0 : Int32))]) (rest := []) hq hA hP hS (c_Ref_floating l A ad D cB cJ o r hne hA cd la lo hi re (q_Ref_format_wi (32 : Int32)) (q_Ref_format_fr (32 : Int32)) (q_Ref_format_bi (32 : Int32)) mi am we f N hf hI hre (if (if (a0 - a0 / (2 : Int32) * (2 : Int32)) = 0 then (1 : Int32) else (0 : Int32)) = 0 then a1 else (if (180 : Int32) ≤ a0 then a1 else (q_Ref_withSign a1 (32 : Int32)))) (if (a0 - a0 / (2 : Int32) * (2 : Int32)) = 0 then (1 : Int32) else (0 : Int32)) (fF (32 : Int32)) (fB (32 : Int32)) (fm_of (Or.inl rfl))) kB_Ref_floating wt_603 ⟨rfl, rfl, Nat.le_of_ble_eq_true rfl, Nat.le_of_ble_eq_true rfl⟩ rfl hl.1 rfl (Nat.le_of_ble_eq_true rfl) d_Ref_turnedInto_207 ⟨Nat.zero_le _, Nat.zero_le _⟩ (fun v9 fs9 f_15 H locs hk9 hP hS => ?_)
        obtain ⟨rfl, lo_15, hi_15, re_15, wi_15, fr_15, bi_15, mi_15, am_15, we_15, N_15, rfl, hre_15, hf_15, hI_15⟩ := hk9
        exact qr_l hq hr hk hP hS ⟨congrArg (fun z => some (Value.long z)) (by unfold q_Ref_turnedInto; exact (((if_pos c_2).trans ((if_pos c_3).trans ((if_neg c_4).trans ((if_neg c_6).trans ((if_neg c_8).trans ((if_pos c_12).trans rfl))))))).symm), _, _, _, _, _, _, _, _, _, _, (by rw [show q_Ref_turnedInto_cd cd a0 a1 = cd from by unfold q_Ref_turnedInto_cd; exact ((if_pos c_2).trans ((if_pos c_3).trans ((if_neg c_4).trans ((if_neg c_6).trans ((if_neg c_8).trans ((if_pos c_12).trans rfl))))))]; first | done | rfl), hre_15, hf_15, hI_15⟩ d_Ref_turnedInto_210
      by_cases c_16 : a0 = (180 : Int32)
      · refine lv_tableIn (tgt := 176) hx hb d_Ref_turnedInto_83 (by rw [c_16]; decide) (by rw [c_16]; decide) (by rw [c_16]; rfl) (by decide) ?_
        refine lv_aload_n hx hb d_Ref_turnedInto_176 rfl (lv_at hl 1 rfl) ?_
        refine lv_bipush (v := (32 : Int32)) hx hb d_Ref_turnedInto_177 (by decide) ?_
        refine rv_v (As := [.int (32 : Int32)]) (rest := []) hq hA hP hS (c_Ref_format l A ad D cB cJ o r hne hA cd la lo hi re wi fr bi mi am we f (32 : Int32)) kB_Ref_format wt_558 ⟨rfl, rfl, Nat.le_of_ble_eq_true rfl, Nat.le_of_ble_eq_true rfl⟩ rfl hl.1 rfl (Nat.le_of_ble_eq_true rfl) d_Ref_turnedInto_179 ⟨Nat.zero_le _, Nat.zero_le _⟩ (fun H locs hP hS => ?_)
        refine lv_aload_n hx hb d_Ref_turnedInto_182 rfl (lv_at hl 1 rfl) ?_
        refine lv_iload hx hb d_Ref_turnedInto_183 (lv_at hl 0 rfl) ?_
        refine jn_ (J := 205) (ls := ls) (v := .long (if (if (a0 - a0 / (2 : Int32) * (2 : Int32)) = 0 then (1 : Int32) else (0 : Int32)) = 0 then a1 else (if (180 : Int32) ≤ a0 then a1 else (q_Ref_withSign a1 (32 : Int32))))) (rest := [.ref o]) (fun hj => ?_) ?_
        · refine lv_if_eq (tgt := 204) hx hb d_Ref_turnedInto_185 (by decide) (fun c_17 => ?_) (fun c_17 => ?_)
          · refine lv_lload_n hx hb d_Ref_turnedInto_204 rfl (lv_at hl 3 rfl) ?_
            exact (by rw [if_pos c_17] at hj; exact hj)
          · refine lv_iload_n hx hb d_Ref_turnedInto_188 rfl (lv_at hl 2 rfl) ?_
            refine lv_sipush (v := (180 : Int32)) hx hb d_Ref_turnedInto_189 (by decide) ?_
            refine jn_ (J := 205) (ls := ls) (v := .long (if (180 : Int32) ≤ a0 then a1 else (q_Ref_withSign a1 (32 : Int32)))) (rest := [.ref o]) (fun hj => ?_) ?_
            · refine lv_icmp_ge (tgt := 204) hx hb d_Ref_turnedInto_192 (by decide) (fun c_18 => ?_) (fun c_18 => ?_)
              · refine lv_lload_n hx hb d_Ref_turnedInto_204 rfl (lv_at hl 3 rfl) ?_
                exact (by rw [if_pos c_18] at hj; exact hj)
              · refine lv_lload_n hx hb d_Ref_turnedInto_195 rfl (lv_at hl 3 rfl) ?_
                refine lv_bipush (v := (32 : Int32)) hx hb d_Ref_turnedInto_196 (by decide) ?_
                refine hl_ (As := [.long a1, .int (32 : Int32)]) (rest := [.ref o]) hq hA hS (c_Ref_withSign l A ad a1 (32 : Int32)) kB_Ref_withSign wt_600 ⟨rfl, rfl, Nat.le_of_ble_eq_true rfl, Nat.le_of_ble_eq_true rfl⟩ rfl hl.1 rfl (Nat.le_of_ble_eq_true rfl) d_Ref_turnedInto_198 ⟨Nat.zero_le _, Nat.zero_le _⟩ ?_
                refine lv_goto (tgt := 205) hx hb d_Ref_turnedInto_201 (by decide) ?_
                exact (by rw [if_neg c_18] at hj; exact hj)
            exact (by rw [if_neg c_17] at hj; exact hj)
        refine lv_iload hx hb d_Ref_turnedInto_205 (lv_at hl 0 rfl) ?_
        refine rq_ (As := [.long (if (if (a0 - a0 / (2 : Int32) * (2 : Int32)) = 0 then (1 : Int32) else (0 : Int32)) = 0 then a1 else (if (180 : Int32) ≤ a0 then a1 else (q_Ref_withSign a1 (32 : Int32)))), .int (if (a0 - a0 / (2 : Int32) * (2 : Int32)) = 0 then (1 : Int32) else (0 : Int32))]) (rest := []) hq hA hP hS (c_Ref_floating l A ad D cB cJ o r hne hA cd la lo hi re (q_Ref_format_wi (32 : Int32)) (q_Ref_format_fr (32 : Int32)) (q_Ref_format_bi (32 : Int32)) mi am we f N hf hI hre (if (if (a0 - a0 / (2 : Int32) * (2 : Int32)) = 0 then (1 : Int32) else (0 : Int32)) = 0 then a1 else (if (180 : Int32) ≤ a0 then a1 else (q_Ref_withSign a1 (32 : Int32)))) (if (a0 - a0 / (2 : Int32) * (2 : Int32)) = 0 then (1 : Int32) else (0 : Int32)) (fF (32 : Int32)) (fB (32 : Int32)) (fm_of (Or.inl rfl))) kB_Ref_floating wt_603 ⟨rfl, rfl, Nat.le_of_ble_eq_true rfl, Nat.le_of_ble_eq_true rfl⟩ rfl hl.1 rfl (Nat.le_of_ble_eq_true rfl) d_Ref_turnedInto_207 ⟨Nat.zero_le _, Nat.zero_le _⟩ (fun v9 fs9 f_19 H locs hk9 hP hS => ?_)
        obtain ⟨rfl, lo_19, hi_19, re_19, wi_19, fr_19, bi_19, mi_19, am_19, we_19, N_19, rfl, hre_19, hf_19, hI_19⟩ := hk9
        exact qr_l hq hr hk hP hS ⟨congrArg (fun z => some (Value.long z)) (by unfold q_Ref_turnedInto; exact (((if_pos c_2).trans ((if_pos c_3).trans ((if_neg c_4).trans ((if_neg c_6).trans ((if_neg c_8).trans ((if_neg c_12).trans ((if_pos c_16).trans rfl)))))))).symm), _, _, _, _, _, _, _, _, _, _, (by rw [show q_Ref_turnedInto_cd cd a0 a1 = cd from by unfold q_Ref_turnedInto_cd; exact ((if_pos c_2).trans ((if_pos c_3).trans ((if_neg c_4).trans ((if_neg c_6).trans ((if_neg c_8).trans ((if_neg c_12).trans ((if_pos c_16).trans rfl)))))))]; first | done | rfl), hre_19, hf_19, hI_19⟩ d_Ref_turnedInto_210
      by_cases c_20 : a0 = (181 : Int32)
      · refine lv_tableIn (tgt := 176) hx hb d_Ref_turnedInto_83 (by rw [c_20]; decide) (by rw [c_20]; decide) (by rw [c_20]; rfl) (by decide) ?_
        refine lv_aload_n hx hb d_Ref_turnedInto_176 rfl (lv_at hl 1 rfl) ?_
        refine lv_bipush (v := (32 : Int32)) hx hb d_Ref_turnedInto_177 (by decide) ?_
        refine rv_v (As := [.int (32 : Int32)]) (rest := []) hq hA hP hS (c_Ref_format l A ad D cB cJ o r hne hA cd la lo hi re wi fr bi mi am we f (32 : Int32)) kB_Ref_format wt_558 ⟨rfl, rfl, Nat.le_of_ble_eq_true rfl, Nat.le_of_ble_eq_true rfl⟩ rfl hl.1 rfl (Nat.le_of_ble_eq_true rfl) d_Ref_turnedInto_179 ⟨Nat.zero_le _, Nat.zero_le _⟩ (fun H locs hP hS => ?_)
        refine lv_aload_n hx hb d_Ref_turnedInto_182 rfl (lv_at hl 1 rfl) ?_
        refine lv_iload hx hb d_Ref_turnedInto_183 (lv_at hl 0 rfl) ?_
        refine jn_ (J := 205) (ls := ls) (v := .long (if (if (a0 - a0 / (2 : Int32) * (2 : Int32)) = 0 then (1 : Int32) else (0 : Int32)) = 0 then a1 else (if (180 : Int32) ≤ a0 then a1 else (q_Ref_withSign a1 (32 : Int32))))) (rest := [.ref o]) (fun hj => ?_) ?_
        · refine lv_if_eq (tgt := 204) hx hb d_Ref_turnedInto_185 (by decide) (fun c_21 => ?_) (fun c_21 => ?_)
          · refine lv_lload_n hx hb d_Ref_turnedInto_204 rfl (lv_at hl 3 rfl) ?_
            exact (by rw [if_pos c_21] at hj; exact hj)
          · refine lv_iload_n hx hb d_Ref_turnedInto_188 rfl (lv_at hl 2 rfl) ?_
            refine lv_sipush (v := (180 : Int32)) hx hb d_Ref_turnedInto_189 (by decide) ?_
            refine jn_ (J := 205) (ls := ls) (v := .long (if (180 : Int32) ≤ a0 then a1 else (q_Ref_withSign a1 (32 : Int32)))) (rest := [.ref o]) (fun hj => ?_) ?_
            · refine lv_icmp_ge (tgt := 204) hx hb d_Ref_turnedInto_192 (by decide) (fun c_22 => ?_) (fun c_22 => ?_)
              · refine lv_lload_n hx hb d_Ref_turnedInto_204 rfl (lv_at hl 3 rfl) ?_
                exact (by rw [if_pos c_22] at hj; exact hj)
              · refine lv_lload_n hx hb d_Ref_turnedInto_195 rfl (lv_at hl 3 rfl) ?_
                refine lv_bipush (v := (32 : Int32)) hx hb d_Ref_turnedInto_196 (by decide) ?_
                refine hl_ (As := [.long a1, .int (32 : Int32)]) (rest := [.ref o]) hq hA hS (c_Ref_withSign l A ad a1 (32 : Int32)) kB_Ref_withSign wt_600 ⟨rfl, rfl, Nat.le_of_ble_eq_true rfl, Nat.le_of_ble_eq_true rfl⟩ rfl hl.1 rfl (Nat.le_of_ble_eq_true rfl) d_Ref_turnedInto_198 ⟨Nat.zero_le _, Nat.zero_le _⟩ ?_
                refine lv_goto (tgt := 205) hx hb d_Ref_turnedInto_201 (by decide) ?_
                exact (by rw [if_neg c_22] at hj; exact hj)
            exact (by rw [if_neg c_21] at hj; exact hj)
        refine lv_iload hx hb d_Ref_turnedInto_205 (lv_at hl 0 rfl) ?_
        refine rq_ (As := [.long (if (if (a0 - a0 / (2 : Int32) * (2 : Int32)) = 0 then (1 : Int32) else (0 : Int32)) = 0 then a1 else (if (180 : Int32) ≤ a0 then a1 else (q_Ref_withSign a1 (32 : Int32)))), .int (if (a0 - a0 / (2 : Int32) * (2 : Int32)) = 0 then (1 : Int32) else (0 : Int32))]) (rest := []) hq hA hP hS (c_Ref_floating l A ad D cB cJ o r hne hA cd la lo hi re (q_Ref_format_wi (32 : Int32)) (q_Ref_format_fr (32 : Int32)) (q_Ref_format_bi (32 : Int32)) mi am we f N hf hI hre (if (if (a0 - a0 / (2 : Int32) * (2 : Int32)) = 0 then (1 : Int32) else (0 : Int32)) = 0 then a1 else (if (180 : Int32) ≤ a0 then a1 else (q_Ref_withSign a1 (32 : Int32)))) (if (a0 - a0 / (2 : Int32) * (2 : Int32)) = 0 then (1 : Int32) else (0 : Int32)) (fF (32 : Int32)) (fB (32 : Int32)) (fm_of (Or.inl rfl))) kB_Ref_floating wt_603 ⟨rfl, rfl, Nat.le_of_ble_eq_true rfl, Nat.le_of_ble_eq_true rfl⟩ rfl hl.1 rfl (Nat.le_of_ble_eq_true rfl) d_Ref_turnedInto_207 ⟨Nat.zero_le _, Nat.zero_le _⟩ (fun v9 fs9 f_23 H locs hk9 hP hS => ?_)
        obtain ⟨rfl, lo_23, hi_23, re_23, wi_23, fr_23, bi_23, mi_23, am_23, we_23, N_23, rfl, hre_23, hf_23, hI_23⟩ := hk9
        exact qr_l hq hr hk hP hS ⟨congrArg (fun z => some (Value.long z)) (by unfold q_Ref_turnedInto; exact (((if_pos c_2).trans ((if_pos c_3).trans ((if_neg c_4).trans ((if_neg c_6).trans ((if_neg c_8).trans ((if_neg c_12).trans ((if_neg c_16).trans ((if_pos c_20).trans rfl))))))))).symm), _, _, _, _, _, _, _, _, _, _, (by rw [show q_Ref_turnedInto_cd cd a0 a1 = cd from by unfold q_Ref_turnedInto_cd; exact ((if_pos c_2).trans ((if_pos c_3).trans ((if_neg c_4).trans ((if_neg c_6).trans ((if_neg c_8).trans ((if_neg c_12).trans ((if_neg c_16).trans ((if_pos c_20).trans rfl))))))))]; first | done | rfl), hre_23, hf_23, hI_23⟩ d_Ref_turnedInto_210
      by_cases c_24 : a0 = (182 : Int32)
      · refine lv_tableIn (tgt := 249) hx hb d_Ref_turnedInto_83 (by rw [c_24]; decide) (by rw [c_24]; decide) (by rw [c_24]; rfl) (by decide) ?_
        refine lv_aload_n hx hb d_Ref_turnedInto_249 rfl (lv_at hl 1 rfl) ?_
        refine lv_iload_n hx hb d_Ref_turnedInto_250 rfl (lv_at hl 2 rfl) ?_
        refine lv_sipush (v := (182 : Int32)) hx hb d_Ref_turnedInto_251 (by decide) ?_
        refine jn_ (J := 264) (ls := ls) (v := .int (if a0 = (182 : Int32) then (64 : Int32) else (32 : Int32))) (rest := [.ref o]) (fun hj => ?_) ?_
        · refine lv_icmp_ne (tgt := 262) hx hb d_Ref_turnedInto_254 (by decide) (fun c_25 => ?_) (fun c_25 => ?_)
          · refine lv_bipush (v := (32 : Int32)) hx hb d_Ref_turnedInto_262 (by decide) ?_
            exact (by rw [if_neg c_25] at hj; exact hj)
          · refine lv_bipush (v := (64 : Int32)) hx hb d_Ref_turnedInto_257 (by decide) ?_
            refine lv_goto (tgt := 264) hx hb d_Ref_turnedInto_259 (by decide) ?_
            exact (by rw [if_pos c_25] at hj; exact hj)
        refine rv_v (As := [.int (if a0 = (182 : Int32) then (64 : Int32) else (32 : Int32))]) (rest := []) hq hA hP hS (c_Ref_format l A ad D cB cJ o r hne hA cd la lo hi re wi fr bi mi am we f (if a0 = (182 : Int32) then (64 : Int32) else (32 : Int32))) kB_Ref_format wt_558 ⟨rfl, rfl, Nat.le_of_ble_eq_true rfl, Nat.le_of_ble_eq_true rfl⟩ rfl hl.1 rfl (Nat.le_of_ble_eq_true rfl) d_Ref_turnedInto_264 ⟨Nat.zero_le _, Nat.zero_le _⟩ (fun H locs hP hS => ?_)
        refine lv_aload_n hx hb d_Ref_turnedInto_267 rfl (lv_at hl 1 rfl) ?_
        refine lv_lload_n hx hb d_Ref_turnedInto_268 rfl (lv_at hl 3 rfl) ?_
        refine lv_iload_n hx hb d_Ref_turnedInto_269 rfl (lv_at hl 2 rfl) ?_
        refine lv_sipush (v := (182 : Int32)) hx hb d_Ref_turnedInto_270 (by decide) ?_
        refine jn_ (J := 283) (ls := ls) (v := .int (if a0 = (182 : Int32) then (32 : Int32) else (64 : Int32))) (rest := [.long a1, .ref o]) (fun hj => ?_) ?_
        · refine lv_icmp_ne (tgt := 281) hx hb d_Ref_turnedInto_273 (by decide) (fun c_26 => ?_) (fun c_26 => ?_)
          · refine lv_bipush (v := (64 : Int32)) hx hb d_Ref_turnedInto_281 (by decide) ?_
            exact (by rw [if_neg c_26] at hj; exact hj)
          · refine lv_bipush (v := (32 : Int32)) hx hb d_Ref_turnedInto_276 (by decide) ?_
            refine lv_goto (tgt := 283) hx hb d_Ref_turnedInto_278 (by decide) ?_
            exact (by rw [if_pos c_26] at hj; exact hj)
        refine rq_ (As := [.long a1, .int (if a0 = (182 : Int32) then (32 : Int32) else (64 : Int32))]) (rest := []) hq hA hP hS (c_Ref_reformed l A ad D cB cJ o r hne hA cd la lo hi re (q_Ref_format_wi (if a0 = (182 : Int32) then (64 : Int32) else (32 : Int32))) (q_Ref_format_fr (if a0 = (182 : Int32) then (64 : Int32) else (32 : Int32))) (q_Ref_format_bi (if a0 = (182 : Int32) then (64 : Int32) else (32 : Int32))) mi am we f N hf hI hre a1 (if a0 = (182 : Int32) then (32 : Int32) else (64 : Int32)) (fF (if a0 = (182 : Int32) then (64 : Int32) else (32 : Int32))) (fB (if a0 = (182 : Int32) then (64 : Int32) else (32 : Int32))) (fm_of (by (repeat' split) <;> first | exact Or.inl rfl | exact Or.inr rfl)) (fF (if a0 = (182 : Int32) then (32 : Int32) else (64 : Int32))) (fB (if a0 = (182 : Int32) then (32 : Int32) else (64 : Int32))) (fm_of (by (repeat' split) <;> first | exact Or.inl rfl | exact Or.inr rfl))) kB_Ref_reformed wt_631 ⟨rfl, rfl, Nat.le_of_ble_eq_true rfl, Nat.le_of_ble_eq_true rfl⟩ rfl hl.1 rfl (Nat.le_of_ble_eq_true rfl) d_Ref_turnedInto_283 ⟨Nat.zero_le _, Nat.zero_le _⟩ (fun v9 fs9 f_27 H locs hk9 hP hS => ?_)
        obtain ⟨rfl, lo_27, hi_27, re_27, wi_27, fr_27, bi_27, mi_27, am_27, we_27, N_27, rfl, hre_27, hf_27, hI_27⟩ := hk9
        exact qr_l hq hr hk hP hS ⟨congrArg (fun z => some (Value.long z)) (by unfold q_Ref_turnedInto; exact (((if_pos c_2).trans ((if_pos c_3).trans ((if_neg c_4).trans ((if_neg c_6).trans ((if_neg c_8).trans ((if_neg c_12).trans ((if_neg c_16).trans ((if_neg c_20).trans ((if_pos c_24).trans rfl)))))))))).symm), _, _, _, _, _, _, _, _, _, _, (by rw [show q_Ref_turnedInto_cd cd a0 a1 = cd from by unfold q_Ref_turnedInto_cd; exact ((if_pos c_2).trans ((if_pos c_3).trans ((if_neg c_4).trans ((if_neg c_6).trans ((if_neg c_8).trans ((if_neg c_12).trans ((if_neg c_16).trans ((if_neg c_20).trans ((if_pos c_24).trans rfl)))))))))]; first | done | rfl), hre_27, hf_27, hI_27⟩ d_Ref_turnedInto_286
      by_cases c_28 : a0 = (183 : Int32)
      · refine lv_tableIn (tgt := 211) hx hb d_Ref_turnedInto_83 (by rw [c_28]; decide) (by rw [c_28]; decide) (by rw [c_28]; rfl) (by decide) ?_
        refine lv_aload_n hx hb d_Ref_turnedInto_211 rfl (lv_at hl 1 rfl) ?_
        refine lv_bipush (v := (64 : Int32)) hx hb d_Ref_turnedInto_212 (by decide) ?_
        refine rv_v (As := [.int (64 : Int32)]) (rest := []) hq hA hP hS (c_Ref_format l A ad D cB cJ o r hne hA cd la lo hi re wi fr bi mi am we f (64 : Int32)) kB_Ref_format wt_558 ⟨rfl, rfl, Nat.le_of_ble_eq_true rfl, Nat.le_of_ble_eq_true rfl⟩ rfl hl.1 rfl (Nat.le_of_ble_eq_true rfl) d_Ref_turnedInto_214 ⟨Nat.zero_le _, Nat.zero_le _⟩ (fun H locs hP hS => ?_)
        refine lv_aload_n hx hb d_Ref_turnedInto_217 rfl (lv_at hl 1 rfl) ?_
        refine lv_iload_n hx hb d_Ref_turnedInto_218 rfl (lv_at hl 2 rfl) ?_
        refine lv_sipush (v := (183 : Int32)) hx hb d_Ref_turnedInto_219 (by decide) ?_
        refine jn_ (J := 235) (ls := ls) (v := .long (if a0 = (183 : Int32) then (q_Ref_withSign a1 (32 : Int32)) else a1)) (rest := [.ref o]) (fun hj => ?_) ?_
        · refine lv_icmp_ne (tgt := 234) hx hb d_Ref_turnedInto_222 (by decide) (fun c_29 => ?_) (fun c_29 => ?_)
          · refine lv_lload_n hx hb d_Ref_turnedInto_234 rfl (lv_at hl 3 rfl) ?_
            exact (by rw [if_neg c_29] at hj; exact hj)
          · refine lv_lload_n hx hb d_Ref_turnedInto_225 rfl (lv_at hl 3 rfl) ?_
            refine lv_bipush (v := (32 : Int32)) hx hb d_Ref_turnedInto_226 (by decide) ?_
            refine hl_ (As := [.long a1, .int (32 : Int32)]) (rest := [.ref o]) hq hA hS (c_Ref_withSign l A ad a1 (32 : Int32)) kB_Ref_withSign wt_600 ⟨rfl, rfl, Nat.le_of_ble_eq_true rfl, Nat.le_of_ble_eq_true rfl⟩ rfl hl.1 rfl (Nat.le_of_ble_eq_true rfl) d_Ref_turnedInto_228 ⟨Nat.zero_le _, Nat.zero_le _⟩ ?_
            refine lv_goto (tgt := 235) hx hb d_Ref_turnedInto_231 (by decide) ?_
            exact (by rw [if_pos c_29] at hj; exact hj)
        refine lv_iload hx hb d_Ref_turnedInto_235 (lv_at hl 0 rfl) ?_
        refine jn_ (J := 245) (ls := ls) (v := .int (if (if (a0 - a0 / (2 : Int32) * (2 : Int32)) = 0 then (1 : Int32) else (0 : Int32)) = 0 then (1 : Int32) else (0 : Int32))) (rest := [.long (if a0 = (183 : Int32) then (q_Ref_withSign a1 (32 : Int32)) else a1), .ref o]) (fun hj => ?_) ?_
        · refine lv_if_ne (tgt := 244) hx hb d_Ref_turnedInto_237 (by decide) (fun c_30 => ?_) (fun c_30 => ?_)
          · refine lv_iconst (v := (0 : Int32)) hx hb d_Ref_turnedInto_244 (by decide) ?_
            exact (by rw [if_neg c_30] at hj; exact hj)
          · refine lv_iconst (v := (1 : Int32)) hx hb d_Ref_turnedInto_240 (by decide) ?_
            refine lv_goto (tgt := 245) hx hb d_Ref_turnedInto_241 (by decide) ?_
            exact (by rw [if_pos c_30] at hj; exact hj)
        refine rq_ (As := [.long (if a0 = (183 : Int32) then (q_Ref_withSign a1 (32 : Int32)) else a1), .int (if (if (a0 - a0 / (2 : Int32) * (2 : Int32)) = 0 then (1 : Int32) else (0 : Int32)) = 0 then (1 : Int32) else (0 : Int32))]) (rest := []) hq hA hP hS (c_Ref_floating l A ad D cB cJ o r hne hA cd la lo hi re (q_Ref_format_wi (64 : Int32)) (q_Ref_format_fr (64 : Int32)) (q_Ref_format_bi (64 : Int32)) mi am we f N hf hI hre (if a0 = (183 : Int32) then (q_Ref_withSign a1 (32 : Int32)) else a1) (if (if (a0 - a0 / (2 : Int32) * (2 : Int32)) = 0 then (1 : Int32) else (0 : Int32)) = 0 then (1 : Int32) else (0 : Int32)) (fF (64 : Int32)) (fB (64 : Int32)) (fm_of (Or.inr rfl))) kB_Ref_floating wt_603 ⟨rfl, rfl, Nat.le_of_ble_eq_true rfl, Nat.le_of_ble_eq_true rfl⟩ rfl hl.1 rfl (Nat.le_of_ble_eq_true rfl) d_Ref_turnedInto_245 ⟨Nat.zero_le _, Nat.zero_le _⟩ (fun v9 fs9 f_31 H locs hk9 hP hS => ?_)
        obtain ⟨rfl, lo_31, hi_31, re_31, wi_31, fr_31, bi_31, mi_31, am_31, we_31, N_31, rfl, hre_31, hf_31, hI_31⟩ := hk9
        exact qr_l hq hr hk hP hS ⟨congrArg (fun z => some (Value.long z)) (by unfold q_Ref_turnedInto; exact (((if_pos c_2).trans ((if_pos c_3).trans ((if_neg c_4).trans ((if_neg c_6).trans ((if_neg c_8).trans ((if_neg c_12).trans ((if_neg c_16).trans ((if_neg c_20).trans ((if_neg c_24).trans ((if_pos c_28).trans rfl))))))))))).symm), _, _, _, _, _, _, _, _, _, _, (by rw [show q_Ref_turnedInto_cd cd a0 a1 = cd from by unfold q_Ref_turnedInto_cd; exact ((if_pos c_2).trans ((if_pos c_3).trans ((if_neg c_4).trans ((if_neg c_6).trans ((if_neg c_8).trans ((if_neg c_12).trans ((if_neg c_16).trans ((if_neg c_20).trans ((if_neg c_24).trans ((if_pos c_28).trans rfl))))))))))]; first | done | rfl), hre_31, hf_31, hI_31⟩ d_Ref_turnedInto_248
      by_cases c_32 : a0 = (184 : Int32)
      · refine lv_tableIn (tgt := 211) hx hb d_Ref_turnedInto_83 (by rw [c_32]; decide) (by rw [c_32]; decide) (by rw [c_32]; rfl) (by decide) ?_
        refine lv_aload_n hx hb d_Ref_turnedInto_211 rfl (lv_at hl 1 rfl) ?_
        refine lv_bipush (v := (64 : Int32)) hx hb d_Ref_turnedInto_212 (by decide) ?_
        refine rv_v (As := [.int (64 : Int32)]) (rest := []) hq hA hP hS (c_Ref_format l A ad D cB cJ o r hne hA cd la lo hi re wi fr bi mi am we f (64 : Int32)) kB_Ref_format wt_558 ⟨rfl, rfl, Nat.le_of_ble_eq_true rfl, Nat.le_of_ble_eq_true rfl⟩ rfl hl.1 rfl (Nat.le_of_ble_eq_true rfl) d_Ref_turnedInto_214 ⟨Nat.zero_le _, Nat.zero_le _⟩ (fun H locs hP hS => ?_)
        refine lv_aload_n hx hb d_Ref_turnedInto_217 rfl (lv_at hl 1 rfl) ?_
        refine lv_iload_n hx hb d_Ref_turnedInto_218 rfl (lv_at hl 2 rfl) ?_
        refine lv_sipush (v := (183 : Int32)) hx hb d_Ref_turnedInto_219 (by decide) ?_
        refine jn_ (J := 235) (ls := ls) (v := .long (if a0 = (183 : Int32) then (q_Ref_withSign a1 (32 : Int32)) else a1)) (rest := [.ref o]) (fun hj => ?_) ?_
        · refine lv_icmp_ne (tgt := 234) hx hb d_Ref_turnedInto_222 (by decide) (fun c_33 => ?_) (fun c_33 => ?_)
          · refine lv_lload_n hx hb d_Ref_turnedInto_234 rfl (lv_at hl 3 rfl) ?_
            exact (by rw [if_neg c_33] at hj; exact hj)
          · refine lv_lload_n hx hb d_Ref_turnedInto_225 rfl (lv_at hl 3 rfl) ?_
            refine lv_bipush (v := (32 : Int32)) hx hb d_Ref_turnedInto_226 (by decide) ?_
            refine hl_ (As := [.long a1, .int (32 : Int32)]) (rest := [.ref o]) hq hA hS (c_Ref_withSign l A ad a1 (32 : Int32)) kB_Ref_withSign wt_600 ⟨rfl, rfl, Nat.le_of_ble_eq_true rfl, Nat.le_of_ble_eq_true rfl⟩ rfl hl.1 rfl (Nat.le_of_ble_eq_true rfl) d_Ref_turnedInto_228 ⟨Nat.zero_le _, Nat.zero_le _⟩ ?_
            refine lv_goto (tgt := 235) hx hb d_Ref_turnedInto_231 (by decide) ?_
            exact (by rw [if_pos c_33] at hj; exact hj)
        refine lv_iload hx hb d_Ref_turnedInto_235 (lv_at hl 0 rfl) ?_
        refine jn_ (J := 245) (ls := ls) (v := .int (if (if (a0 - a0 / (2 : Int32) * (2 : Int32)) = 0 then (1 : Int32) else (0 : Int32)) = 0 then (1 : Int32) else (0 : Int32))) (rest := [.long (if a0 = (183 : Int32) then (q_Ref_withSign a1 (32 : Int32)) else a1), .ref o]) (fun hj => ?_) ?_
        · refine lv_if_ne (tgt := 244) hx hb d_Ref_turnedInto_237 (by decide) (fun c_34 => ?_) (fun c_34 => ?_)
          · refine lv_iconst (v := (0 : Int32)) hx hb d_Ref_turnedInto_244 (by decide) ?_
            exact (by rw [if_neg c_34] at hj; exact hj)
          · refine lv_iconst (v := (1 : Int32)) hx hb d_Ref_turnedInto_240 (by decide) ?_
            refine lv_goto (tgt := 245) hx hb d_Ref_turnedInto_241 (by decide) ?_
            exact (by rw [if_pos c_34] at hj; exact hj)
        refine rq_ (As := [.long (if a0 = (183 : Int32) then (q_Ref_withSign a1 (32 : Int32)) else a1), .int (if (if (a0 - a0 / (2 : Int32) * (2 : Int32)) = 0 then (1 : Int32) else (0 : Int32)) = 0 then (1 : Int32) else (0 : Int32))]) (rest := []) hq hA hP hS (c_Ref_floating l A ad D cB cJ o r hne hA cd la lo hi re (q_Ref_format_wi (64 : Int32)) (q_Ref_format_fr (64 : Int32)) (q_Ref_format_bi (64 : Int32)) mi am we f N hf hI hre (if a0 = (183 : Int32) then (q_Ref_withSign a1 (32 : Int32)) else a1) (if (if (a0 - a0 / (2 : Int32) * (2 : Int32)) = 0 then (1 : Int32) else (0 : Int32)) = 0 then (1 : Int32) else (0 : Int32)) (fF (64 : Int32)) (fB (64 : Int32)) (fm_of (Or.inr rfl))) kB_Ref_floating wt_603 ⟨rfl, rfl, Nat.le_of_ble_eq_true rfl, Nat.le_of_ble_eq_true rfl⟩ rfl hl.1 rfl (Nat.le_of_ble_eq_true rfl) d_Ref_turnedInto_245 ⟨Nat.zero_le _, Nat.zero_le _⟩ (fun v9 fs9 f_35 H locs hk9 hP hS => ?_)
        obtain ⟨rfl, lo_35, hi_35, re_35, wi_35, fr_35, bi_35, mi_35, am_35, we_35, N_35, rfl, hre_35, hf_35, hI_35⟩ := hk9
        exact qr_l hq hr hk hP hS ⟨congrArg (fun z => some (Value.long z)) (by unfold q_Ref_turnedInto; exact (((if_pos c_2).trans ((if_pos c_3).trans ((if_neg c_4).trans ((if_neg c_6).trans ((if_neg c_8).trans ((if_neg c_12).trans ((if_neg c_16).trans ((if_neg c_20).trans ((if_neg c_24).trans ((if_neg c_28).trans ((if_pos c_32).trans rfl)))))))))))).symm), _, _, _, _, _, _, _, _, _, _, (by rw [show q_Ref_turnedInto_cd cd a0 a1 = cd from by unfold q_Ref_turnedInto_cd; exact ((if_pos c_2).trans ((if_pos c_3).trans ((if_neg c_4).trans ((if_neg c_6).trans ((if_neg c_8).trans ((if_neg c_12).trans ((if_neg c_16).trans ((if_neg c_20).trans ((if_neg c_24).trans ((if_neg c_28).trans ((if_pos c_32).trans rfl)))))))))))]; first | done | rfl), hre_35, hf_35, hI_35⟩ d_Ref_turnedInto_248
      by_cases c_36 : a0 = (185 : Int32)
      · refine lv_tableIn (tgt := 211) hx hb d_Ref_turnedInto_83 (by rw [c_36]; decide) (by rw [c_36]; decide) (by rw [c_36]; rfl) (by decide) ?_
        refine lv_aload_n hx hb d_Ref_turnedInto_211 rfl (lv_at hl 1 rfl) ?_
        refine lv_bipush (v := (64 : Int32)) hx hb d_Ref_turnedInto_212 (by decide) ?_
        refine rv_v (As := [.int (64 : Int32)]) (rest := []) hq hA hP hS (c_Ref_format l A ad D cB cJ o r hne hA cd la lo hi re wi fr bi mi am we f (64 : Int32)) kB_Ref_format wt_558 ⟨rfl, rfl, Nat.le_of_ble_eq_true rfl, Nat.le_of_ble_eq_true rfl⟩ rfl hl.1 rfl (Nat.le_of_ble_eq_true rfl) d_Ref_turnedInto_214 ⟨Nat.zero_le _, Nat.zero_le _⟩ (fun H locs hP hS => ?_)
        refine lv_aload_n hx hb d_Ref_turnedInto_217 rfl (lv_at hl 1 rfl) ?_
        refine lv_iload_n hx hb d_Ref_turnedInto_218 rfl (lv_at hl 2 rfl) ?_
        refine lv_sipush (v := (183 : Int32)) hx hb d_Ref_turnedInto_219 (by decide) ?_
        refine jn_ (J := 235) (ls := ls) (v := .long (if a0 = (183 : Int32) then (q_Ref_withSign a1 (32 : Int32)) else a1)) (rest := [.ref o]) (fun hj => ?_) ?_
        · refine lv_icmp_ne (tgt := 234) hx hb d_Ref_turnedInto_222 (by decide) (fun c_37 => ?_) (fun c_37 => ?_)
          · refine lv_lload_n hx hb d_Ref_turnedInto_234 rfl (lv_at hl 3 rfl) ?_
            exact (by rw [if_neg c_37] at hj; exact hj)
          · refine lv_lload_n hx hb d_Ref_turnedInto_225 rfl (lv_at hl 3 rfl) ?_
            refine lv_bipush (v := (32 : Int32)) hx hb d_Ref_turnedInto_226 (by decide) ?_
            refine hl_ (As := [.long a1, .int (32 : Int32)]) (rest := [.ref o]) hq hA hS (c_Ref_withSign l A ad a1 (32 : Int32)) kB_Ref_withSign wt_600 ⟨rfl, rfl, Nat.le_of_ble_eq_true rfl, Nat.le_of_ble_eq_true rfl⟩ rfl hl.1 rfl (Nat.le_of_ble_eq_true rfl) d_Ref_turnedInto_228 ⟨Nat.zero_le _, Nat.zero_le _⟩ ?_
            refine lv_goto (tgt := 235) hx hb d_Ref_turnedInto_231 (by decide) ?_
            exact (by rw [if_pos c_37] at hj; exact hj)
        refine lv_iload hx hb d_Ref_turnedInto_235 (lv_at hl 0 rfl) ?_
        refine jn_ (J := 245) (ls := ls) (v := .int (if (if (a0 - a0 / (2 : Int32) * (2 : Int32)) = 0 then (1 : Int32) else (0 : Int32)) = 0 then (1 : Int32) else (0 : Int32))) (rest := [.long (if a0 = (183 : Int32) then (q_Ref_withSign a1 (32 : Int32)) else a1), .ref o]) (fun hj => ?_) ?_
        · refine lv_if_ne (tgt := 244) hx hb d_Ref_turnedInto_237 (by decide) (fun c_38 => ?_) (fun c_38 => ?_)
          · refine lv_iconst (v := (0 : Int32)) hx hb d_Ref_turnedInto_244 (by decide) ?_
            exact (by rw [if_neg c_38] at hj; exact hj)
          · refine lv_iconst (v := (1 : Int32)) hx hb d_Ref_turnedInto_240 (by decide) ?_
            refine lv_goto (tgt := 245) hx hb d_Ref_turnedInto_241 (by decide) ?_
            exact (by rw [if_pos c_38] at hj; exact hj)
        refine rq_ (As := [.long (if a0 = (183 : Int32) then (q_Ref_withSign a1 (32 : Int32)) else a1), .int (if (if (a0 - a0 / (2 : Int32) * (2 : Int32)) = 0 then (1 : Int32) else (0 : Int32)) = 0 then (1 : Int32) else (0 : Int32))]) (rest := []) hq hA hP hS (c_Ref_floating l A ad D cB cJ o r hne hA cd la lo hi re (q_Ref_format_wi (64 : Int32)) (q_Ref_format_fr (64 : Int32)) (q_Ref_format_bi (64 : Int32)) mi am we f N hf hI hre (if a0 = (183 : Int32) then (q_Ref_withSign a1 (32 : Int32)) else a1) (if (if (a0 - a0 / (2 : Int32) * (2 : Int32)) = 0 then (1 : Int32) else (0 : Int32)) = 0 then (1 : Int32) else (0 : Int32)) (fF (64 : Int32)) (fB (64 : Int32)) (fm_of (Or.inr rfl))) kB_Ref_floating wt_603 ⟨rfl, rfl, Nat.le_of_ble_eq_true rfl, Nat.le_of_ble_eq_true rfl⟩ rfl hl.1 rfl (Nat.le_of_ble_eq_true rfl) d_Ref_turnedInto_245 ⟨Nat.zero_le _, Nat.zero_le _⟩ (fun v9 fs9 f_39 H locs hk9 hP hS => ?_)
        obtain ⟨rfl, lo_39, hi_39, re_39, wi_39, fr_39, bi_39, mi_39, am_39, we_39, N_39, rfl, hre_39, hf_39, hI_39⟩ := hk9
        exact qr_l hq hr hk hP hS ⟨congrArg (fun z => some (Value.long z)) (by unfold q_Ref_turnedInto; exact (((if_pos c_2).trans ((if_pos c_3).trans ((if_neg c_4).trans ((if_neg c_6).trans ((if_neg c_8).trans ((if_neg c_12).trans ((if_neg c_16).trans ((if_neg c_20).trans ((if_neg c_24).trans ((if_neg c_28).trans ((if_neg c_32).trans ((if_pos c_36).trans rfl))))))))))))).symm), _, _, _, _, _, _, _, _, _, _, (by rw [show q_Ref_turnedInto_cd cd a0 a1 = cd from by unfold q_Ref_turnedInto_cd; exact ((if_pos c_2).trans ((if_pos c_3).trans ((if_neg c_4).trans ((if_neg c_6).trans ((if_neg c_8).trans ((if_neg c_12).trans ((if_neg c_16).trans ((if_neg c_20).trans ((if_neg c_24).trans ((if_neg c_28).trans ((if_neg c_32).trans ((if_pos c_36).trans rfl))))))))))))]; first | done | rfl), hre_39, hf_39, hI_39⟩ d_Ref_turnedInto_248
      by_cases c_40 : a0 = (186 : Int32)
      · refine lv_tableIn (tgt := 211) hx hb d_Ref_turnedInto_83 (by rw [c_40]; decide) (by rw [c_40]; decide) (by rw [c_40]; rfl) (by decide) ?_
        refine lv_aload_n hx hb d_Ref_turnedInto_211 rfl (lv_at hl 1 rfl) ?_
        refine lv_bipush (v := (64 : Int32)) hx hb d_Ref_turnedInto_212 (by decide) ?_
        refine rv_v (As := [.int (64 : Int32)]) (rest := []) hq hA hP hS (c_Ref_format l A ad D cB cJ o r hne hA cd la lo hi re wi fr bi mi am we f (64 : Int32)) kB_Ref_format wt_558 ⟨rfl, rfl, Nat.le_of_ble_eq_true rfl, Nat.le_of_ble_eq_true rfl⟩ rfl hl.1 rfl (Nat.le_of_ble_eq_true rfl) d_Ref_turnedInto_214 ⟨Nat.zero_le _, Nat.zero_le _⟩ (fun H locs hP hS => ?_)
        refine lv_aload_n hx hb d_Ref_turnedInto_217 rfl (lv_at hl 1 rfl) ?_
        refine lv_iload_n hx hb d_Ref_turnedInto_218 rfl (lv_at hl 2 rfl) ?_
        refine lv_sipush (v := (183 : Int32)) hx hb d_Ref_turnedInto_219 (by decide) ?_
        refine jn_ (J := 235) (ls := ls) (v := .long (if a0 = (183 : Int32) then (q_Ref_withSign a1 (32 : Int32)) else a1)) (rest := [.ref o]) (fun hj => ?_) ?_
        · refine lv_icmp_ne (tgt := 234) hx hb d_Ref_turnedInto_222 (by decide) (fun c_41 => ?_) (fun c_41 => ?_)
          · refine lv_lload_n hx hb d_Ref_turnedInto_234 rfl (lv_at hl 3 rfl) ?_
            exact (by rw [if_neg c_41] at hj; exact hj)
          · refine lv_lload_n hx hb d_Ref_turnedInto_225 rfl (lv_at hl 3 rfl) ?_
            refine lv_bipush (v := (32 : Int32)) hx hb d_Ref_turnedInto_226 (by decide) ?_
            refine hl_ (As := [.long a1, .int (32 : Int32)]) (rest := [.ref o]) hq hA hS (c_Ref_withSign l A ad a1 (32 : Int32)) kB_Ref_withSign wt_600 ⟨rfl, rfl, Nat.le_of_ble_eq_true rfl, Nat.le_of_ble_eq_true rfl⟩ rfl hl.1 rfl (Nat.le_of_ble_eq_true rfl) d_Ref_turnedInto_228 ⟨Nat.zero_le _, Nat.zero_le _⟩ ?_
            refine lv_goto (tgt := 235) hx hb d_Ref_turnedInto_231 (by decide) ?_
            exact (by rw [if_pos c_41] at hj; exact hj)
        refine lv_iload hx hb d_Ref_turnedInto_235 (lv_at hl 0 rfl) ?_
        refine jn_ (J := 245) (ls := ls) (v := .int (if (if (a0 - a0 / (2 : Int32) * (2 : Int32)) = 0 then (1 : Int32) else (0 : Int32)) = 0 then (1 : Int32) else (0 : Int32))) (rest := [.long (if a0 = (183 : Int32) then (q_Ref_withSign a1 (32 : Int32)) else a1), .ref o]) (fun hj => ?_) ?_
        · refine lv_if_ne (tgt := 244) hx hb d_Ref_turnedInto_237 (by decide) (fun c_42 => ?_) (fun c_42 => ?_)
          · refine lv_iconst (v := (0 : Int32)) hx hb d_Ref_turnedInto_244 (by decide) ?_
            exact (by rw [if_neg c_42] at hj; exact hj)
          · refine lv_iconst (v := (1 : Int32)) hx hb d_Ref_turnedInto_240 (by decide) ?_
            refine lv_goto (tgt := 245) hx hb d_Ref_turnedInto_241 (by decide) ?_
            exact (by rw [if_pos c_42] at hj; exact hj)
        refine rq_ (As := [.long (if a0 = (183 : Int32) then (q_Ref_withSign a1 (32 : Int32)) else a1), .int (if (if (a0 - a0 / (2 : Int32) * (2 : Int32)) = 0 then (1 : Int32) else (0 : Int32)) = 0 then (1 : Int32) else (0 : Int32))]) (rest := []) hq hA hP hS (c_Ref_floating l A ad D cB cJ o r hne hA cd la lo hi re (q_Ref_format_wi (64 : Int32)) (q_Ref_format_fr (64 : Int32)) (q_Ref_format_bi (64 : Int32)) mi am we f N hf hI hre (if a0 = (183 : Int32) then (q_Ref_withSign a1 (32 : Int32)) else a1) (if (if (a0 - a0 / (2 : Int32) * (2 : Int32)) = 0 then (1 : Int32) else (0 : Int32)) = 0 then (1 : Int32) else (0 : Int32)) (fF (64 : Int32)) (fB (64 : Int32)) (fm_of (Or.inr rfl))) kB_Ref_floating wt_603 ⟨rfl, rfl, Nat.le_of_ble_eq_true rfl, Nat.le_of_ble_eq_true rfl⟩ rfl hl.1 rfl (Nat.le_of_ble_eq_true rfl) d_Ref_turnedInto_245 ⟨Nat.zero_le _, Nat.zero_le _⟩ (fun v9 fs9 f_43 H locs hk9 hP hS => ?_)
        obtain ⟨rfl, lo_43, hi_43, re_43, wi_43, fr_43, bi_43, mi_43, am_43, we_43, N_43, rfl, hre_43, hf_43, hI_43⟩ := hk9
        exact qr_l hq hr hk hP hS ⟨congrArg (fun z => some (Value.long z)) (by unfold q_Ref_turnedInto; exact (((if_pos c_2).trans ((if_pos c_3).trans ((if_neg c_4).trans ((if_neg c_6).trans ((if_neg c_8).trans ((if_neg c_12).trans ((if_neg c_16).trans ((if_neg c_20).trans ((if_neg c_24).trans ((if_neg c_28).trans ((if_neg c_32).trans ((if_neg c_36).trans ((if_pos c_40).trans rfl)))))))))))))).symm), _, _, _, _, _, _, _, _, _, _, (by rw [show q_Ref_turnedInto_cd cd a0 a1 = cd from by unfold q_Ref_turnedInto_cd; exact ((if_pos c_2).trans ((if_pos c_3).trans ((if_neg c_4).trans ((if_neg c_6).trans ((if_neg c_8).trans ((if_neg c_12).trans ((if_neg c_16).trans ((if_neg c_20).trans ((if_neg c_24).trans ((if_neg c_28).trans ((if_neg c_32).trans ((if_neg c_36).trans ((if_pos c_40).trans rfl)))))))))))))]; first | done | rfl), hre_43, hf_43, hI_43⟩ d_Ref_turnedInto_248
      by_cases c_44 : a0 = (187 : Int32)
      · refine lv_tableIn (tgt := 249) hx hb d_Ref_turnedInto_83 (by rw [c_44]; decide) (by rw [c_44]; decide) (by rw [c_44]; rfl) (by decide) ?_
        refine lv_aload_n hx hb d_Ref_turnedInto_249 rfl (lv_at hl 1 rfl) ?_
        refine lv_iload_n hx hb d_Ref_turnedInto_250 rfl (lv_at hl 2 rfl) ?_
        refine lv_sipush (v := (182 : Int32)) hx hb d_Ref_turnedInto_251 (by decide) ?_
        refine jn_ (J := 264) (ls := ls) (v := .int (if a0 = (182 : Int32) then (64 : Int32) else (32 : Int32))) (rest := [.ref o]) (fun hj => ?_) ?_
        · refine lv_icmp_ne (tgt := 262) hx hb d_Ref_turnedInto_254 (by decide) (fun c_45 => ?_) (fun c_45 => ?_)
          · refine lv_bipush (v := (32 : Int32)) hx hb d_Ref_turnedInto_262 (by decide) ?_
            exact (by rw [if_neg c_45] at hj; exact hj)
          · refine lv_bipush (v := (64 : Int32)) hx hb d_Ref_turnedInto_257 (by decide) ?_
            refine lv_goto (tgt := 264) hx hb d_Ref_turnedInto_259 (by decide) ?_
            exact (by rw [if_pos c_45] at hj; exact hj)
        refine rv_v (As := [.int (if a0 = (182 : Int32) then (64 : Int32) else (32 : Int32))]) (rest := []) hq hA hP hS (c_Ref_format l A ad D cB cJ o r hne hA cd la lo hi re wi fr bi mi am we f (if a0 = (182 : Int32) then (64 : Int32) else (32 : Int32))) kB_Ref_format wt_558 ⟨rfl, rfl, Nat.le_of_ble_eq_true rfl, Nat.le_of_ble_eq_true rfl⟩ rfl hl.1 rfl (Nat.le_of_ble_eq_true rfl) d_Ref_turnedInto_264 ⟨Nat.zero_le _, Nat.zero_le _⟩ (fun H locs hP hS => ?_)
        refine lv_aload_n hx hb d_Ref_turnedInto_267 rfl (lv_at hl 1 rfl) ?_
        refine lv_lload_n hx hb d_Ref_turnedInto_268 rfl (lv_at hl 3 rfl) ?_
        refine lv_iload_n hx hb d_Ref_turnedInto_269 rfl (lv_at hl 2 rfl) ?_
        refine lv_sipush (v := (182 : Int32)) hx hb d_Ref_turnedInto_270 (by decide) ?_
        refine jn_ (J := 283) (ls := ls) (v := .int (if a0 = (182 : Int32) then (32 : Int32) else (64 : Int32))) (rest := [.long a1, .ref o]) (fun hj => ?_) ?_
        · refine lv_icmp_ne (tgt := 281) hx hb d_Ref_turnedInto_273 (by decide) (fun c_46 => ?_) (fun c_46 => ?_)
          · refine lv_bipush (v := (64 : Int32)) hx hb d_Ref_turnedInto_281 (by decide) ?_
            exact (by rw [if_neg c_46] at hj; exact hj)
          · refine lv_bipush (v := (32 : Int32)) hx hb d_Ref_turnedInto_276 (by decide) ?_
            refine lv_goto (tgt := 283) hx hb d_Ref_turnedInto_278 (by decide) ?_
            exact (by rw [if_pos c_46] at hj; exact hj)
        refine rq_ (As := [.long a1, .int (if a0 = (182 : Int32) then (32 : Int32) else (64 : Int32))]) (rest := []) hq hA hP hS (c_Ref_reformed l A ad D cB cJ o r hne hA cd la lo hi re (q_Ref_format_wi (if a0 = (182 : Int32) then (64 : Int32) else (32 : Int32))) (q_Ref_format_fr (if a0 = (182 : Int32) then (64 : Int32) else (32 : Int32))) (q_Ref_format_bi (if a0 = (182 : Int32) then (64 : Int32) else (32 : Int32))) mi am we f N hf hI hre a1 (if a0 = (182 : Int32) then (32 : Int32) else (64 : Int32)) (fF (if a0 = (182 : Int32) then (64 : Int32) else (32 : Int32))) (fB (if a0 = (182 : Int32) then (64 : Int32) else (32 : Int32))) (fm_of (by (repeat' split) <;> first | exact Or.inl rfl | exact Or.inr rfl)) (fF (if a0 = (182 : Int32) then (32 : Int32) else (64 : Int32))) (fB (if a0 = (182 : Int32) then (32 : Int32) else (64 : Int32))) (fm_of (by (repeat' split) <;> first | exact Or.inl rfl | exact Or.inr rfl))) kB_Ref_reformed wt_631 ⟨rfl, rfl, Nat.le_of_ble_eq_true rfl, Nat.le_of_ble_eq_true rfl⟩ rfl hl.1 rfl (Nat.le_of_ble_eq_true rfl) d_Ref_turnedInto_283 ⟨Nat.zero_le _, Nat.zero_le _⟩ (fun v9 fs9 f_47 H locs hk9 hP hS => ?_)
        obtain ⟨rfl, lo_47, hi_47, re_47, wi_47, fr_47, bi_47, mi_47, am_47, we_47, N_47, rfl, hre_47, hf_47, hI_47⟩ := hk9
        exact qr_l hq hr hk hP hS ⟨congrArg (fun z => some (Value.long z)) (by unfold q_Ref_turnedInto; exact (((if_pos c_2).trans ((if_pos c_3).trans ((if_neg c_4).trans ((if_neg c_6).trans ((if_neg c_8).trans ((if_neg c_12).trans ((if_neg c_16).trans ((if_neg c_20).trans ((if_neg c_24).trans ((if_neg c_28).trans ((if_neg c_32).trans ((if_neg c_36).trans ((if_neg c_40).trans ((if_pos c_44).trans rfl))))))))))))))).symm), _, _, _, _, _, _, _, _, _, _, (by rw [show q_Ref_turnedInto_cd cd a0 a1 = cd from by unfold q_Ref_turnedInto_cd; exact ((if_pos c_2).trans ((if_pos c_3).trans ((if_neg c_4).trans ((if_neg c_6).trans ((if_neg c_8).trans ((if_neg c_12).trans ((if_neg c_16).trans ((if_neg c_20).trans ((if_neg c_24).trans ((if_neg c_28).trans ((if_neg c_32).trans ((if_neg c_36).trans ((if_neg c_40).trans ((if_pos c_44).trans rfl))))))))))))))]; first | done | rfl), hre_47, hf_47, hI_47⟩ d_Ref_turnedInto_286
      have hsw : a0.toInt < 172 ∨ 187 < a0.toInt ∨ a0.toInt = 174 ∨ a0.toInt = 175 ∨ a0.toInt = 176 ∨ a0.toInt = 177 := by
        have := lv_neT c_4 (a := 172) (by decide)
        have := lv_neT c_6 (a := 173) (by decide)
        have := lv_neT c_8 (a := 178) (by decide)
        have := lv_neT c_12 (a := 179) (by decide)
        have := lv_neT c_16 (a := 180) (by decide)
        have := lv_neT c_20 (a := 181) (by decide)
        have := lv_neT c_24 (a := 182) (by decide)
        have := lv_neT c_28 (a := 183) (by decide)
        have := lv_neT c_32 (a := 184) (by decide)
        have := lv_neT c_36 (a := 185) (by decide)
        have := lv_neT c_40 (a := 186) (by decide)
        have := lv_neT c_44 (a := 187) (by decide)
        omega
      have hs2 : a0.toInt < 172 ∨ 187 < a0.toInt ∨ (¬ a0.toInt < 172 ∧ ¬ 187 < a0.toInt ∧ (#[77, 77, 204, 204, 204, 204, 93, 93, 93, 93, 166, 128, 128, 128, 128, 166] : Array Int)[(a0.toInt - 172).toNat]? = some 204) := by
        rcases hsw with h9 | h9 | h9 | h9 | h9 | h9
        · exact Or.inl h9
        · exact Or.inr (Or.inl h9)
        all_goals exact Or.inr (Or.inr ⟨by rw [h9]; decide, by rw [h9]; decide, by rw [h9] <;> rfl⟩)
      refine tb_dflt (tgt := 287) hx hb d_Ref_turnedInto_83 hs2 (by decide) ?_
      refine lv_lload_n hx hb d_Ref_turnedInto_287 rfl (lv_at hl 3 rfl) ?_
      exact qr_l hq hr hk hP hS ⟨congrArg (fun z => some (Value.long z)) (by unfold q_Ref_turnedInto; exact (((if_pos c_2).trans ((if_pos c_3).trans ((if_neg c_4).trans ((if_neg c_6).trans ((if_neg c_8).trans ((if_neg c_12).trans ((if_neg c_16).trans ((if_neg c_20).trans ((if_neg c_24).trans ((if_neg c_28).trans ((if_neg c_32).trans ((if_neg c_36).trans ((if_neg c_40).trans ((if_neg c_44).trans rfl))))))))))))))).symm), _, _, _, _, _, _, _, _, _, _, (by rw [show q_Ref_turnedInto_cd cd a0 a1 = cd from by unfold q_Ref_turnedInto_cd; exact ((if_pos c_2).trans ((if_pos c_3).trans ((if_neg c_4).trans ((if_neg c_6).trans ((if_neg c_8).trans ((if_neg c_12).trans ((if_neg c_16).trans ((if_neg c_20).trans ((if_neg c_24).trans ((if_neg c_28).trans ((if_neg c_32).trans ((if_neg c_36).trans ((if_neg c_40).trans ((if_neg c_44).trans rfl))))))))))))))]; first | done | rfl), hre, hf, hI⟩ d_Ref_turnedInto_288
    · refine lv_iload_n hx hb d_Ref_turnedInto_34 rfl (lv_at hl 2 rfl) ?_
      refine lv_sipush (v := (177 : Int32)) hx hb d_Ref_turnedInto_35 (by decide) ?_
      refine lv_icmp_gt (tgt := 82) hx hb d_Ref_turnedInto_38 (by decide) (fun c_48 => ?_) (fun c_48 => ?_)
      · refine lv_iload_n hx hb d_Ref_turnedInto_82 rfl (lv_at hl 2 rfl) ?_
        by_cases c_49 : a0 = (172 : Int32)
        · refine lv_tableIn (tgt := 160) hx hb d_Ref_turnedInto_83 (by rw [c_49]; decide) (by rw [c_49]; decide) (by rw [c_49]; rfl) (by decide) ?_
          refine lv_iload hx hb d_Ref_turnedInto_160 (lv_at hl 0 rfl) ?_
          refine jn_ (J := 175) (ls := ls) (v := .long (if (if (a0 - a0 / (2 : Int32) * (2 : Int32)) = 0 then (1 : Int32) else (0 : Int32)) = 0 then a1 else (q_Ref_withSign a1 (32 : Int32)))) (rest := []) (fun hj => ?_) ?_
          · refine lv_if_eq (tgt := 174) hx hb d_Ref_turnedInto_162 (by decide) (fun c_50 => ?_) (fun c_50 => ?_)
            · refine lv_lload_n hx hb d_Ref_turnedInto_174 rfl (lv_at hl 3 rfl) ?_
              exact (by rw [if_pos c_50] at hj; exact hj)
            · refine lv_lload_n hx hb d_Ref_turnedInto_165 rfl (lv_at hl 3 rfl) ?_
              refine lv_bipush (v := (32 : Int32)) hx hb d_Ref_turnedInto_166 (by decide) ?_
              refine hl_ (As := [.long a1, .int (32 : Int32)]) (rest := []) hq hA hS (c_Ref_withSign l A ad a1 (32 : Int32)) kB_Ref_withSign wt_600 ⟨rfl, rfl, Nat.le_of_ble_eq_true rfl, Nat.le_of_ble_eq_true rfl⟩ rfl hl.1 rfl (Nat.le_of_ble_eq_true rfl) d_Ref_turnedInto_168 ⟨Nat.zero_le _, Nat.zero_le _⟩ ?_
              refine lv_goto (tgt := 175) hx hb d_Ref_turnedInto_171 (by decide) ?_
              exact (by rw [if_neg c_50] at hj; exact hj)
          exact qr_l hq hr hk hP hS ⟨congrArg (fun z => some (Value.long z)) (by unfold q_Ref_turnedInto; exact (((if_pos c_2).trans ((if_neg c_3).trans ((if_pos c_48).trans ((if_pos c_49).trans rfl))))).symm), _, _, _, _, _, _, _, _, _, _, (by rw [show q_Ref_turnedInto_cd cd a0 a1 = cd from by unfold q_Ref_turnedInto_cd; exact ((if_pos c_2).trans ((if_neg c_3).trans ((if_pos c_48).trans ((if_pos c_49).trans rfl))))]; first | done | rfl), hre, hf, hI⟩ d_Ref_turnedInto_175
        by_cases c_51 : a0 = (173 : Int32)
        · refine lv_tableIn (tgt := 160) hx hb d_Ref_turnedInto_83 (by rw [c_51]; decide) (by rw [c_51]; decide) (by rw [c_51]; rfl) (by decide) ?_
          refine lv_iload hx hb d_Ref_turnedInto_160 (lv_at hl 0 rfl) ?_
          refine jn_ (J := 175) (ls := ls) (v := .long (if (if (a0 - a0 / (2 : Int32) * (2 : Int32)) = 0 then (1 : Int32) else (0 : Int32)) = 0 then a1 else (q_Ref_withSign a1 (32 : Int32)))) (rest := []) (fun hj => ?_) ?_
          · refine lv_if_eq (tgt := 174) hx hb d_Ref_turnedInto_162 (by decide) (fun c_52 => ?_) (fun c_52 => ?_)
            · refine lv_lload_n hx hb d_Ref_turnedInto_174 rfl (lv_at hl 3 rfl) ?_
              exact (by rw [if_pos c_52] at hj; exact hj)
            · refine lv_lload_n hx hb d_Ref_turnedInto_165 rfl (lv_at hl 3 rfl) ?_
              refine lv_bipush (v := (32 : Int32)) hx hb d_Ref_turnedInto_166 (by decide) ?_
              refine hl_ (As := [.long a1, .int (32 : Int32)]) (rest := []) hq hA hS (c_Ref_withSign l A ad a1 (32 : Int32)) kB_Ref_withSign wt_600 ⟨rfl, rfl, Nat.le_of_ble_eq_true rfl, Nat.le_of_ble_eq_true rfl⟩ rfl hl.1 rfl (Nat.le_of_ble_eq_true rfl) d_Ref_turnedInto_168 ⟨Nat.zero_le _, Nat.zero_le _⟩ ?_
              refine lv_goto (tgt := 175) hx hb d_Ref_turnedInto_171 (by decide) ?_
              exact (by rw [if_neg c_52] at hj; exact hj)
          exact qr_l hq hr hk hP hS ⟨congrArg (fun z => some (Value.long z)) (by unfold q_Ref_turnedInto; exact (((if_pos c_2).trans ((if_neg c_3).trans ((if_pos c_48).trans ((if_neg c_49).trans ((if_pos c_51).trans rfl)))))).symm), _, _, _, _, _, _, _, _, _, _, (by rw [show q_Ref_turnedInto_cd cd a0 a1 = cd from by unfold q_Ref_turnedInto_cd; exact ((if_pos c_2).trans ((if_neg c_3).trans ((if_pos c_48).trans ((if_neg c_49).trans ((if_pos c_51).trans rfl)))))]; first | done | rfl), hre, hf, hI⟩ d_Ref_turnedInto_175
        by_cases c_53 : a0 = (178 : Int32)
        · refine lv_tableIn (tgt := 176) hx hb d_Ref_turnedInto_83 (by rw [c_53]; decide) (by rw [c_53]; decide) (by rw [c_53]; rfl) (by decide) ?_
          refine lv_aload_n hx hb d_Ref_turnedInto_176 rfl (lv_at hl 1 rfl) ?_
          refine lv_bipush (v := (32 : Int32)) hx hb d_Ref_turnedInto_177 (by decide) ?_
          refine rv_v (As := [.int (32 : Int32)]) (rest := []) hq hA hP hS (c_Ref_format l A ad D cB cJ o r hne hA cd la lo hi re wi fr bi mi am we f (32 : Int32)) kB_Ref_format wt_558 ⟨rfl, rfl, Nat.le_of_ble_eq_true rfl, Nat.le_of_ble_eq_true rfl⟩ rfl hl.1 rfl (Nat.le_of_ble_eq_true rfl) d_Ref_turnedInto_179 ⟨Nat.zero_le _, Nat.zero_le _⟩ (fun H locs hP hS => ?_)
          refine lv_aload_n hx hb d_Ref_turnedInto_182 rfl (lv_at hl 1 rfl) ?_
          refine lv_iload hx hb d_Ref_turnedInto_183 (lv_at hl 0 rfl) ?_
          refine jn_ (J := 205) (ls := ls) (v := .long (if (if (a0 - a0 / (2 : Int32) * (2 : Int32)) = 0 then (1 : Int32) else (0 : Int32)) = 0 then a1 else (if (180 : Int32) ≤ a0 then a1 else (q_Ref_withSign a1 (32 : Int32))))) (rest := [.ref o]) (fun hj => ?_) ?_
          · refine lv_if_eq (tgt := 204) hx hb d_Ref_turnedInto_185 (by decide) (fun c_54 => ?_) (fun c_54 => ?_)
            · refine lv_lload_n hx hb d_Ref_turnedInto_204 rfl (lv_at hl 3 rfl) ?_
              exact (by rw [if_pos c_54] at hj; exact hj)
            · refine lv_iload_n hx hb d_Ref_turnedInto_188 rfl (lv_at hl 2 rfl) ?_
              refine lv_sipush (v := (180 : Int32)) hx hb d_Ref_turnedInto_189 (by decide) ?_
              refine jn_ (J := 205) (ls := ls) (v := .long (if (180 : Int32) ≤ a0 then a1 else (q_Ref_withSign a1 (32 : Int32)))) (rest := [.ref o]) (fun hj => ?_) ?_
              · refine lv_icmp_ge (tgt := 204) hx hb d_Ref_turnedInto_192 (by decide) (fun c_55 => ?_) (fun c_55 => ?_)
                · refine lv_lload_n hx hb d_Ref_turnedInto_204 rfl (lv_at hl 3 rfl) ?_
                  exact (by rw [if_pos c_55] at hj; exact hj)
                · refine lv_lload_n hx hb d_Ref_turnedInto_195 rfl (lv_at hl 3 rfl) ?_
                  refine lv_bipush (v := (32 : Int32)) hx hb d_Ref_turnedInto_196 (by decide) ?_
                  refine hl_ (As := [.long a1, .int (32 : Int32)]) (rest := [.ref o]) hq hA hS (c_Ref_withSign l A ad a1 (32 : Int32)) kB_Ref_withSign wt_600 ⟨rfl, rfl, Nat.le_of_ble_eq_true rfl, Nat.le_of_ble_eq_true rfl⟩ rfl hl.1 rfl (Nat.le_of_ble_eq_true rfl) d_Ref_turnedInto_198 ⟨Nat.zero_le _, Nat.zero_le _⟩ ?_
                  refine lv_goto (tgt := 205) hx hb d_Ref_turnedInto_201 (by decide) ?_
                  exact (by rw [if_neg c_55] at hj; exact hj)
              exact (by rw [if_neg c_54] at hj; exact hj)
          refine lv_iload hx hb d_Ref_turnedInto_205 (lv_at hl 0 rfl) ?_
          refine rq_ (As := [.long (if (if (a0 - a0 / (2 : Int32) * (2 : Int32)) = 0 then (1 : Int32) else (0 : Int32)) = 0 then a1 else (if (180 : Int32) ≤ a0 then a1 else (q_Ref_withSign a1 (32 : Int32)))), .int (if (a0 - a0 / (2 : Int32) * (2 : Int32)) = 0 then (1 : Int32) else (0 : Int32))]) (rest := []) hq hA hP hS (c_Ref_floating l A ad D cB cJ o r hne hA cd la lo hi re (q_Ref_format_wi (32 : Int32)) (q_Ref_format_fr (32 : Int32)) (q_Ref_format_bi (32 : Int32)) mi am we f N hf hI hre (if (if (a0 - a0 / (2 : Int32) * (2 : Int32)) = 0 then (1 : Int32) else (0 : Int32)) = 0 then a1 else (if (180 : Int32) ≤ a0 then a1 else (q_Ref_withSign a1 (32 : Int32)))) (if (a0 - a0 / (2 : Int32) * (2 : Int32)) = 0 then (1 : Int32) else (0 : Int32)) (fF (32 : Int32)) (fB (32 : Int32)) (fm_of (Or.inl rfl))) kB_Ref_floating wt_603 ⟨rfl, rfl, Nat.le_of_ble_eq_true rfl, Nat.le_of_ble_eq_true rfl⟩ rfl hl.1 rfl (Nat.le_of_ble_eq_true rfl) d_Ref_turnedInto_207 ⟨Nat.zero_le _, Nat.zero_le _⟩ (fun v9 fs9 f_56 H locs hk9 hP hS => ?_)
          obtain ⟨rfl, lo_56, hi_56, re_56, wi_56, fr_56, bi_56, mi_56, am_56, we_56, N_56, rfl, hre_56, hf_56, hI_56⟩ := hk9
          exact qr_l hq hr hk hP hS ⟨congrArg (fun z => some (Value.long z)) (by unfold q_Ref_turnedInto; exact (((if_pos c_2).trans ((if_neg c_3).trans ((if_pos c_48).trans ((if_neg c_49).trans ((if_neg c_51).trans ((if_pos c_53).trans rfl))))))).symm), _, _, _, _, _, _, _, _, _, _, (by rw [show q_Ref_turnedInto_cd cd a0 a1 = cd from by unfold q_Ref_turnedInto_cd; exact ((if_pos c_2).trans ((if_neg c_3).trans ((if_pos c_48).trans ((if_neg c_49).trans ((if_neg c_51).trans ((if_pos c_53).trans rfl))))))]; first | done | rfl), hre_56, hf_56, hI_56⟩ d_Ref_turnedInto_210
        by_cases c_57 : a0 = (179 : Int32)
        · refine lv_tableIn (tgt := 176) hx hb d_Ref_turnedInto_83 (by rw [c_57]; decide) (by rw [c_57]; decide) (by rw [c_57]; rfl) (by decide) ?_
          refine lv_aload_n hx hb d_Ref_turnedInto_176 rfl (lv_at hl 1 rfl) ?_
          refine lv_bipush (v := (32 : Int32)) hx hb d_Ref_turnedInto_177 (by decide) ?_
          refine rv_v (As := [.int (32 : Int32)]) (rest := []) hq hA hP hS (c_Ref_format l A ad D cB cJ o r hne hA cd la lo hi re wi fr bi mi am we f (32 : Int32)) kB_Ref_format wt_558 ⟨rfl, rfl, Nat.le_of_ble_eq_true rfl, Nat.le_of_ble_eq_true rfl⟩ rfl hl.1 rfl (Nat.le_of_ble_eq_true rfl) d_Ref_turnedInto_179 ⟨Nat.zero_le _, Nat.zero_le _⟩ (fun H locs hP hS => ?_)
          refine lv_aload_n hx hb d_Ref_turnedInto_182 rfl (lv_at hl 1 rfl) ?_
          refine lv_iload hx hb d_Ref_turnedInto_183 (lv_at hl 0 rfl) ?_
          refine jn_ (J := 205) (ls := ls) (v := .long (if (if (a0 - a0 / (2 : Int32) * (2 : Int32)) = 0 then (1 : Int32) else (0 : Int32)) = 0 then a1 else (if (180 : Int32) ≤ a0 then a1 else (q_Ref_withSign a1 (32 : Int32))))) (rest := [.ref o]) (fun hj => ?_) ?_
          · refine lv_if_eq (tgt := 204) hx hb d_Ref_turnedInto_185 (by decide) (fun c_58 => ?_) (fun c_58 => ?_)
            · refine lv_lload_n hx hb d_Ref_turnedInto_204 rfl (lv_at hl 3 rfl) ?_
              exact (by rw [if_pos c_58] at hj; exact hj)
            · refine lv_iload_n hx hb d_Ref_turnedInto_188 rfl (lv_at hl 2 rfl) ?_
              refine lv_sipush (v := (180 : Int32)) hx hb d_Ref_turnedInto_189 (by decide) ?_
              refine jn_ (J := 205) (ls := ls) (v := .long (if (180 : Int32) ≤ a0 then a1 else (q_Ref_withSign a1 (32 : Int32)))) (rest := [.ref o]) (fun hj => ?_) ?_
              · refine lv_icmp_ge (tgt := 204) hx hb d_Ref_turnedInto_192 (by decide) (fun c_59 => ?_) (fun c_59 => ?_)
                · refine lv_lload_n hx hb d_Ref_turnedInto_204 rfl (lv_at hl 3 rfl) ?_
                  exact (by rw [if_pos c_59] at hj; exact hj)
                · refine lv_lload_n hx hb d_Ref_turnedInto_195 rfl (lv_at hl 3 rfl) ?_
                  refine lv_bipush (v := (32 : Int32)) hx hb d_Ref_turnedInto_196 (by decide) ?_
                  refine hl_ (As := [.long a1, .int (32 : Int32)]) (rest := [.ref o]) hq hA hS (c_Ref_withSign l A ad a1 (32 : Int32)) kB_Ref_withSign wt_600 ⟨rfl, rfl, Nat.le_of_ble_eq_true rfl, Nat.le_of_ble_eq_true rfl⟩ rfl hl.1 rfl (Nat.le_of_ble_eq_true rfl) d_Ref_turnedInto_198 ⟨Nat.zero_le _, Nat.zero_le _⟩ ?_
                  refine lv_goto (tgt := 205) hx hb d_Ref_turnedInto_201 (by decide) ?_
                  exact (by rw [if_neg c_59] at hj; exact hj)
              exact (by rw [if_neg c_58] at hj; exact hj)
          refine lv_iload hx hb d_Ref_turnedInto_205 (lv_at hl 0 rfl) ?_
          refine rq_ (As := [.long (if (if (a0 - a0 / (2 : Int32) * (2 : Int32)) = 0 then (1 : Int32) else (0 : Int32)) = 0 then a1 else (if (180 : Int32) ≤ a0 then a1 else (q_Ref_withSign a1 (32 : Int32)))), .int (if (a0 - a0 / (2 : Int32) * (2 : Int32)) = 0 then (1 : Int32) else (0 : Int32))]) (rest := []) hq hA hP hS (c_Ref_floating l A ad D cB cJ o r hne hA cd la lo hi re (q_Ref_format_wi (32 : Int32)) (q_Ref_format_fr (32 : Int32)) (q_Ref_format_bi (32 : Int32)) mi am we f N hf hI hre (if (if (a0 - a0 / (2 : Int32) * (2 : Int32)) = 0 then (1 : Int32) else (0 : Int32)) = 0 then a1 else (if (180 : Int32) ≤ a0 then a1 else (q_Ref_withSign a1 (32 : Int32)))) (if (a0 - a0 / (2 : Int32) * (2 : Int32)) = 0 then (1 : Int32) else (0 : Int32)) (fF (32 : Int32)) (fB (32 : Int32)) (fm_of (Or.inl rfl))) kB_Ref_floating wt_603 ⟨rfl, rfl, Nat.le_of_ble_eq_true rfl, Nat.le_of_ble_eq_true rfl⟩ rfl hl.1 rfl (Nat.le_of_ble_eq_true rfl) d_Ref_turnedInto_207 ⟨Nat.zero_le _, Nat.zero_le _⟩ (fun v9 fs9 f_60 H locs hk9 hP hS => ?_)
          obtain ⟨rfl, lo_60, hi_60, re_60, wi_60, fr_60, bi_60, mi_60, am_60, we_60, N_60, rfl, hre_60, hf_60, hI_60⟩ := hk9
          exact qr_l hq hr hk hP hS ⟨congrArg (fun z => some (Value.long z)) (by unfold q_Ref_turnedInto; exact (((if_pos c_2).trans ((if_neg c_3).trans ((if_pos c_48).trans ((if_neg c_49).trans ((if_neg c_51).trans ((if_neg c_53).trans ((if_pos c_57).trans rfl)))))))).symm), _, _, _, _, _, _, _, _, _, _, (by rw [show q_Ref_turnedInto_cd cd a0 a1 = cd from by unfold q_Ref_turnedInto_cd; exact ((if_pos c_2).trans ((if_neg c_3).trans ((if_pos c_48).trans ((if_neg c_49).trans ((if_neg c_51).trans ((if_neg c_53).trans ((if_pos c_57).trans rfl)))))))]; first | done | rfl), hre_60, hf_60, hI_60⟩ d_Ref_turnedInto_210
        by_cases c_61 : a0 = (180 : Int32)
        · refine lv_tableIn (tgt := 176) hx hb d_Ref_turnedInto_83 (by rw [c_61]; decide) (by rw [c_61]; decide) (by rw [c_61]; rfl) (by decide) ?_
          refine lv_aload_n hx hb d_Ref_turnedInto_176 rfl (lv_at hl 1 rfl) ?_
          refine lv_bipush (v := (32 : Int32)) hx hb d_Ref_turnedInto_177 (by decide) ?_
          refine rv_v (As := [.int (32 : Int32)]) (rest := []) hq hA hP hS (c_Ref_format l A ad D cB cJ o r hne hA cd la lo hi re wi fr bi mi am we f (32 : Int32)) kB_Ref_format wt_558 ⟨rfl, rfl, Nat.le_of_ble_eq_true rfl, Nat.le_of_ble_eq_true rfl⟩ rfl hl.1 rfl (Nat.le_of_ble_eq_true rfl) d_Ref_turnedInto_179 ⟨Nat.zero_le _, Nat.zero_le _⟩ (fun H locs hP hS => ?_)
          refine lv_aload_n hx hb d_Ref_turnedInto_182 rfl (lv_at hl 1 rfl) ?_
          refine lv_iload hx hb d_Ref_turnedInto_183 (lv_at hl 0 rfl) ?_
          refine jn_ (J := 205) (ls := ls) (v := .long (if (if (a0 - a0 / (2 : Int32) * (2 : Int32)) = 0 then (1 : Int32) else (0 : Int32)) = 0 then a1 else (if (180 : Int32) ≤ a0 then a1 else (q_Ref_withSign a1 (32 : Int32))))) (rest := [.ref o]) (fun hj => ?_) ?_
          · refine lv_if_eq (tgt := 204) hx hb d_Ref_turnedInto_185 (by decide) (fun c_62 => ?_) (fun c_62 => ?_)
            · refine lv_lload_n hx hb d_Ref_turnedInto_204 rfl (lv_at hl 3 rfl) ?_
              exact (by rw [if_pos c_62] at hj; exact hj)
            · refine lv_iload_n hx hb d_Ref_turnedInto_188 rfl (lv_at hl 2 rfl) ?_
              refine lv_sipush (v := (180 : Int32)) hx hb d_Ref_turnedInto_189 (by decide) ?_
              refine jn_ (J := 205) (ls := ls) (v := .long (if (180 : Int32) ≤ a0 then a1 else (q_Ref_withSign a1 (32 : Int32)))) (rest := [.ref o]) (fun hj => ?_) ?_
              · refine lv_icmp_ge (tgt := 204) hx hb d_Ref_turnedInto_192 (by decide) (fun c_63 => ?_) (fun c_63 => ?_)
                · refine lv_lload_n hx hb d_Ref_turnedInto_204 rfl (lv_at hl 3 rfl) ?_
                  exact (by rw [if_pos c_63] at hj; exact hj)
                · refine lv_lload_n hx hb d_Ref_turnedInto_195 rfl (lv_at hl 3 rfl) ?_
                  refine lv_bipush (v := (32 : Int32)) hx hb d_Ref_turnedInto_196 (by decide) ?_
                  refine hl_ (As := [.long a1, .int (32 : Int32)]) (rest := [.ref o]) hq hA hS (c_Ref_withSign l A ad a1 (32 : Int32)) kB_Ref_withSign wt_600 ⟨rfl, rfl, Nat.le_of_ble_eq_true rfl, Nat.le_of_ble_eq_true rfl⟩ rfl hl.1 rfl (Nat.le_of_ble_eq_true rfl) d_Ref_turnedInto_198 ⟨Nat.zero_le _, Nat.zero_le _⟩ ?_
                  refine lv_goto (tgt := 205) hx hb d_Ref_turnedInto_201 (by decide) ?_
                  exact (by rw [if_neg c_63] at hj; exact hj)
              exact (by rw [if_neg c_62] at hj; exact hj)
          refine lv_iload hx hb d_Ref_turnedInto_205 (lv_at hl 0 rfl) ?_
          refine rq_ (As := [.long (if (if (a0 - a0 / (2 : Int32) * (2 : Int32)) = 0 then (1 : Int32) else (0 : Int32)) = 0 then a1 else (if (180 : Int32) ≤ a0 then a1 else (q_Ref_withSign a1 (32 : Int32)))), .int (if (a0 - a0 / (2 : Int32) * (2 : Int32)) = 0 then (1 : Int32) else (0 : Int32))]) (rest := []) hq hA hP hS (c_Ref_floating l A ad D cB cJ o r hne hA cd la lo hi re (q_Ref_format_wi (32 : Int32)) (q_Ref_format_fr (32 : Int32)) (q_Ref_format_bi (32 : Int32)) mi am we f N hf hI hre (if (if (a0 - a0 / (2 : Int32) * (2 : Int32)) = 0 then (1 : Int32) else (0 : Int32)) = 0 then a1 else (if (180 : Int32) ≤ a0 then a1 else (q_Ref_withSign a1 (32 : Int32)))) (if (a0 - a0 / (2 : Int32) * (2 : Int32)) = 0 then (1 : Int32) else (0 : Int32)) (fF (32 : Int32)) (fB (32 : Int32)) (fm_of (Or.inl rfl))) kB_Ref_floating wt_603 ⟨rfl, rfl, Nat.le_of_ble_eq_true rfl, Nat.le_of_ble_eq_true rfl⟩ rfl hl.1 rfl (Nat.le_of_ble_eq_true rfl) d_Ref_turnedInto_207 ⟨Nat.zero_le _, Nat.zero_le _⟩ (fun v9 fs9 f_64 H locs hk9 hP hS => ?_)
          obtain ⟨rfl, lo_64, hi_64, re_64, wi_64, fr_64, bi_64, mi_64, am_64, we_64, N_64, rfl, hre_64, hf_64, hI_64⟩ := hk9
          exact qr_l hq hr hk hP hS ⟨congrArg (fun z => some (Value.long z)) (by unfold q_Ref_turnedInto; exact (((if_pos c_2).trans ((if_neg c_3).trans ((if_pos c_48).trans ((if_neg c_49).trans ((if_neg c_51).trans ((if_neg c_53).trans ((if_neg c_57).trans ((if_pos c_61).trans rfl))))))))).symm), _, _, _, _, _, _, _, _, _, _, (by rw [show q_Ref_turnedInto_cd cd a0 a1 = cd from by unfold q_Ref_turnedInto_cd; exact ((if_pos c_2).trans ((if_neg c_3).trans ((if_pos c_48).trans ((if_neg c_49).trans ((if_neg c_51).trans ((if_neg c_53).trans ((if_neg c_57).trans ((if_pos c_61).trans rfl))))))))]; first | done | rfl), hre_64, hf_64, hI_64⟩ d_Ref_turnedInto_210
        by_cases c_65 : a0 = (181 : Int32)
        · refine lv_tableIn (tgt := 176) hx hb d_Ref_turnedInto_83 (by rw [c_65]; decide) (by rw [c_65]; decide) (by rw [c_65]; rfl) (by decide) ?_
          refine lv_aload_n hx hb d_Ref_turnedInto_176 rfl (lv_at hl 1 rfl) ?_
          refine lv_bipush (v := (32 : Int32)) hx hb d_Ref_turnedInto_177 (by decide) ?_
          refine rv_v (As := [.int (32 : Int32)]) (rest := []) hq hA hP hS (c_Ref_format l A ad D cB cJ o r hne hA cd la lo hi re wi fr bi mi am we f (32 : Int32)) kB_Ref_format wt_558 ⟨rfl, rfl, Nat.le_of_ble_eq_true rfl, Nat.le_of_ble_eq_true rfl⟩ rfl hl.1 rfl (Nat.le_of_ble_eq_true rfl) d_Ref_turnedInto_179 ⟨Nat.zero_le _, Nat.zero_le _⟩ (fun H locs hP hS => ?_)
          refine lv_aload_n hx hb d_Ref_turnedInto_182 rfl (lv_at hl 1 rfl) ?_
          refine lv_iload hx hb d_Ref_turnedInto_183 (lv_at hl 0 rfl) ?_
          refine jn_ (J := 205) (ls := ls) (v := .long (if (if (a0 - a0 / (2 : Int32) * (2 : Int32)) = 0 then (1 : Int32) else (0 : Int32)) = 0 then a1 else (if (180 : Int32) ≤ a0 then a1 else (q_Ref_withSign a1 (32 : Int32))))) (rest := [.ref o]) (fun hj => ?_) ?_
          · refine lv_if_eq (tgt := 204) hx hb d_Ref_turnedInto_185 (by decide) (fun c_66 => ?_) (fun c_66 => ?_)
            · refine lv_lload_n hx hb d_Ref_turnedInto_204 rfl (lv_at hl 3 rfl) ?_
              exact (by rw [if_pos c_66] at hj; exact hj)
            · refine lv_iload_n hx hb d_Ref_turnedInto_188 rfl (lv_at hl 2 rfl) ?_
              refine lv_sipush (v := (180 : Int32)) hx hb d_Ref_turnedInto_189 (by decide) ?_
              refine jn_ (J := 205) (ls := ls) (v := .long (if (180 : Int32) ≤ a0 then a1 else (q_Ref_withSign a1 (32 : Int32)))) (rest := [.ref o]) (fun hj => ?_) ?_
              · refine lv_icmp_ge (tgt := 204) hx hb d_Ref_turnedInto_192 (by decide) (fun c_67 => ?_) (fun c_67 => ?_)
                · refine lv_lload_n hx hb d_Ref_turnedInto_204 rfl (lv_at hl 3 rfl) ?_
                  exact (by rw [if_pos c_67] at hj; exact hj)
                · refine lv_lload_n hx hb d_Ref_turnedInto_195 rfl (lv_at hl 3 rfl) ?_
                  refine lv_bipush (v := (32 : Int32)) hx hb d_Ref_turnedInto_196 (by decide) ?_
                  refine hl_ (As := [.long a1, .int (32 : Int32)]) (rest := [.ref o]) hq hA hS (c_Ref_withSign l A ad a1 (32 : Int32)) kB_Ref_withSign wt_600 ⟨rfl, rfl, Nat.le_of_ble_eq_true rfl, Nat.le_of_ble_eq_true rfl⟩ rfl hl.1 rfl (Nat.le_of_ble_eq_true rfl) d_Ref_turnedInto_198 ⟨Nat.zero_le _, Nat.zero_le _⟩ ?_
                  refine lv_goto (tgt := 205) hx hb d_Ref_turnedInto_201 (by decide) ?_
                  exact (by rw [if_neg c_67] at hj; exact hj)
              exact (by rw [if_neg c_66] at hj; exact hj)
          refine lv_iload hx hb d_Ref_turnedInto_205 (lv_at hl 0 rfl) ?_
          refine rq_ (As := [.long (if (if (a0 - a0 / (2 : Int32) * (2 : Int32)) = 0 then (1 : Int32) else (0 : Int32)) = 0 then a1 else (if (180 : Int32) ≤ a0 then a1 else (q_Ref_withSign a1 (32 : Int32)))), .int (if (a0 - a0 / (2 : Int32) * (2 : Int32)) = 0 then (1 : Int32) else (0 : Int32))]) (rest := []) hq hA hP hS (c_Ref_floating l A ad D cB cJ o r hne hA cd la lo hi re (q_Ref_format_wi (32 : Int32)) (q_Ref_format_fr (32 : Int32)) (q_Ref_format_bi (32 : Int32)) mi am we f N hf hI hre (if (if (a0 - a0 / (2 : Int32) * (2 : Int32)) = 0 then (1 : Int32) else (0 : Int32)) = 0 then a1 else (if (180 : Int32) ≤ a0 then a1 else (q_Ref_withSign a1 (32 : Int32)))) (if (a0 - a0 / (2 : Int32) * (2 : Int32)) = 0 then (1 : Int32) else (0 : Int32)) (fF (32 : Int32)) (fB (32 : Int32)) (fm_of (Or.inl rfl))) kB_Ref_floating wt_603 ⟨rfl, rfl, Nat.le_of_ble_eq_true rfl, Nat.le_of_ble_eq_true rfl⟩ rfl hl.1 rfl (Nat.le_of_ble_eq_true rfl) d_Ref_turnedInto_207 ⟨Nat.zero_le _, Nat.zero_le _⟩ (fun v9 fs9 f_68 H locs hk9 hP hS => ?_)
          obtain ⟨rfl, lo_68, hi_68, re_68, wi_68, fr_68, bi_68, mi_68, am_68, we_68, N_68, rfl, hre_68, hf_68, hI_68⟩ := hk9
          exact qr_l hq hr hk hP hS ⟨congrArg (fun z => some (Value.long z)) (by unfold q_Ref_turnedInto; exact (((if_pos c_2).trans ((if_neg c_3).trans ((if_pos c_48).trans ((if_neg c_49).trans ((if_neg c_51).trans ((if_neg c_53).trans ((if_neg c_57).trans ((if_neg c_61).trans ((if_pos c_65).trans rfl)))))))))).symm), _, _, _, _, _, _, _, _, _, _, (by rw [show q_Ref_turnedInto_cd cd a0 a1 = cd from by unfold q_Ref_turnedInto_cd; exact ((if_pos c_2).trans ((if_neg c_3).trans ((if_pos c_48).trans ((if_neg c_49).trans ((if_neg c_51).trans ((if_neg c_53).trans ((if_neg c_57).trans ((if_neg c_61).trans ((if_pos c_65).trans rfl)))))))))]; first | done | rfl), hre_68, hf_68, hI_68⟩ d_Ref_turnedInto_210
        by_cases c_69 : a0 = (182 : Int32)
        · refine lv_tableIn (tgt := 249) hx hb d_Ref_turnedInto_83 (by rw [c_69]; decide) (by rw [c_69]; decide) (by rw [c_69]; rfl) (by decide) ?_
          refine lv_aload_n hx hb d_Ref_turnedInto_249 rfl (lv_at hl 1 rfl) ?_
          refine lv_iload_n hx hb d_Ref_turnedInto_250 rfl (lv_at hl 2 rfl) ?_
          refine lv_sipush (v := (182 : Int32)) hx hb d_Ref_turnedInto_251 (by decide) ?_
          refine jn_ (J := 264) (ls := ls) (v := .int (if a0 = (182 : Int32) then (64 : Int32) else (32 : Int32))) (rest := [.ref o]) (fun hj => ?_) ?_
          · refine lv_icmp_ne (tgt := 262) hx hb d_Ref_turnedInto_254 (by decide) (fun c_70 => ?_) (fun c_70 => ?_)
            · refine lv_bipush (v := (32 : Int32)) hx hb d_Ref_turnedInto_262 (by decide) ?_
              exact (by rw [if_neg c_70] at hj; exact hj)
            · refine lv_bipush (v := (64 : Int32)) hx hb d_Ref_turnedInto_257 (by decide) ?_
              refine lv_goto (tgt := 264) hx hb d_Ref_turnedInto_259 (by decide) ?_
              exact (by rw [if_pos c_70] at hj; exact hj)
          refine rv_v (As := [.int (if a0 = (182 : Int32) then (64 : Int32) else (32 : Int32))]) (rest := []) hq hA hP hS (c_Ref_format l A ad D cB cJ o r hne hA cd la lo hi re wi fr bi mi am we f (if a0 = (182 : Int32) then (64 : Int32) else (32 : Int32))) kB_Ref_format wt_558 ⟨rfl, rfl, Nat.le_of_ble_eq_true rfl, Nat.le_of_ble_eq_true rfl⟩ rfl hl.1 rfl (Nat.le_of_ble_eq_true rfl) d_Ref_turnedInto_264 ⟨Nat.zero_le _, Nat.zero_le _⟩ (fun H locs hP hS => ?_)
          refine lv_aload_n hx hb d_Ref_turnedInto_267 rfl (lv_at hl 1 rfl) ?_
          refine lv_lload_n hx hb d_Ref_turnedInto_268 rfl (lv_at hl 3 rfl) ?_
          refine lv_iload_n hx hb d_Ref_turnedInto_269 rfl (lv_at hl 2 rfl) ?_
          refine lv_sipush (v := (182 : Int32)) hx hb d_Ref_turnedInto_270 (by decide) ?_
          refine jn_ (J := 283) (ls := ls) (v := .int (if a0 = (182 : Int32) then (32 : Int32) else (64 : Int32))) (rest := [.long a1, .ref o]) (fun hj => ?_) ?_
          · refine lv_icmp_ne (tgt := 281) hx hb d_Ref_turnedInto_273 (by decide) (fun c_71 => ?_) (fun c_71 => ?_)
            · refine lv_bipush (v := (64 : Int32)) hx hb d_Ref_turnedInto_281 (by decide) ?_
              exact (by rw [if_neg c_71] at hj; exact hj)
            · refine lv_bipush (v := (32 : Int32)) hx hb d_Ref_turnedInto_276 (by decide) ?_
              refine lv_goto (tgt := 283) hx hb d_Ref_turnedInto_278 (by decide) ?_
              exact (by rw [if_pos c_71] at hj; exact hj)
          refine rq_ (As := [.long a1, .int (if a0 = (182 : Int32) then (32 : Int32) else (64 : Int32))]) (rest := []) hq hA hP hS (c_Ref_reformed l A ad D cB cJ o r hne hA cd la lo hi re (q_Ref_format_wi (if a0 = (182 : Int32) then (64 : Int32) else (32 : Int32))) (q_Ref_format_fr (if a0 = (182 : Int32) then (64 : Int32) else (32 : Int32))) (q_Ref_format_bi (if a0 = (182 : Int32) then (64 : Int32) else (32 : Int32))) mi am we f N hf hI hre a1 (if a0 = (182 : Int32) then (32 : Int32) else (64 : Int32)) (fF (if a0 = (182 : Int32) then (64 : Int32) else (32 : Int32))) (fB (if a0 = (182 : Int32) then (64 : Int32) else (32 : Int32))) (fm_of (by (repeat' split) <;> first | exact Or.inl rfl | exact Or.inr rfl)) (fF (if a0 = (182 : Int32) then (32 : Int32) else (64 : Int32))) (fB (if a0 = (182 : Int32) then (32 : Int32) else (64 : Int32))) (fm_of (by (repeat' split) <;> first | exact Or.inl rfl | exact Or.inr rfl))) kB_Ref_reformed wt_631 ⟨rfl, rfl, Nat.le_of_ble_eq_true rfl, Nat.le_of_ble_eq_true rfl⟩ rfl hl.1 rfl (Nat.le_of_ble_eq_true rfl) d_Ref_turnedInto_283 ⟨Nat.zero_le _, Nat.zero_le _⟩ (fun v9 fs9 f_72 H locs hk9 hP hS => ?_)
          obtain ⟨rfl, lo_72, hi_72, re_72, wi_72, fr_72, bi_72, mi_72, am_72, we_72, N_72, rfl, hre_72, hf_72, hI_72⟩ := hk9
          exact qr_l hq hr hk hP hS ⟨congrArg (fun z => some (Value.long z)) (by unfold q_Ref_turnedInto; exact (((if_pos c_2).trans ((if_neg c_3).trans ((if_pos c_48).trans ((if_neg c_49).trans ((if_neg c_51).trans ((if_neg c_53).trans ((if_neg c_57).trans ((if_neg c_61).trans ((if_neg c_65).trans ((if_pos c_69).trans rfl))))))))))).symm), _, _, _, _, _, _, _, _, _, _, (by rw [show q_Ref_turnedInto_cd cd a0 a1 = cd from by unfold q_Ref_turnedInto_cd; exact ((if_pos c_2).trans ((if_neg c_3).trans ((if_pos c_48).trans ((if_neg c_49).trans ((if_neg c_51).trans ((if_neg c_53).trans ((if_neg c_57).trans ((if_neg c_61).trans ((if_neg c_65).trans ((if_pos c_69).trans rfl))))))))))]; first | done | rfl), hre_72, hf_72, hI_72⟩ d_Ref_turnedInto_286
        by_cases c_73 : a0 = (183 : Int32)
        · refine lv_tableIn (tgt := 211) hx hb d_Ref_turnedInto_83 (by rw [c_73]; decide) (by rw [c_73]; decide) (by rw [c_73]; rfl) (by decide) ?_
          refine lv_aload_n hx hb d_Ref_turnedInto_211 rfl (lv_at hl 1 rfl) ?_
          refine lv_bipush (v := (64 : Int32)) hx hb d_Ref_turnedInto_212 (by decide) ?_
          refine rv_v (As := [.int (64 : Int32)]) (rest := []) hq hA hP hS (c_Ref_format l A ad D cB cJ o r hne hA cd la lo hi re wi fr bi mi am we f (64 : Int32)) kB_Ref_format wt_558 ⟨rfl, rfl, Nat.le_of_ble_eq_true rfl, Nat.le_of_ble_eq_true rfl⟩ rfl hl.1 rfl (Nat.le_of_ble_eq_true rfl) d_Ref_turnedInto_214 ⟨Nat.zero_le _, Nat.zero_le _⟩ (fun H locs hP hS => ?_)
          refine lv_aload_n hx hb d_Ref_turnedInto_217 rfl (lv_at hl 1 rfl) ?_
          refine lv_iload_n hx hb d_Ref_turnedInto_218 rfl (lv_at hl 2 rfl) ?_
          refine lv_sipush (v := (183 : Int32)) hx hb d_Ref_turnedInto_219 (by decide) ?_
          refine jn_ (J := 235) (ls := ls) (v := .long (if a0 = (183 : Int32) then (q_Ref_withSign a1 (32 : Int32)) else a1)) (rest := [.ref o]) (fun hj => ?_) ?_
          · refine lv_icmp_ne (tgt := 234) hx hb d_Ref_turnedInto_222 (by decide) (fun c_74 => ?_) (fun c_74 => ?_)
            · refine lv_lload_n hx hb d_Ref_turnedInto_234 rfl (lv_at hl 3 rfl) ?_
              exact (by rw [if_neg c_74] at hj; exact hj)
            · refine lv_lload_n hx hb d_Ref_turnedInto_225 rfl (lv_at hl 3 rfl) ?_
              refine lv_bipush (v := (32 : Int32)) hx hb d_Ref_turnedInto_226 (by decide) ?_
              refine hl_ (As := [.long a1, .int (32 : Int32)]) (rest := [.ref o]) hq hA hS (c_Ref_withSign l A ad a1 (32 : Int32)) kB_Ref_withSign wt_600 ⟨rfl, rfl, Nat.le_of_ble_eq_true rfl, Nat.le_of_ble_eq_true rfl⟩ rfl hl.1 rfl (Nat.le_of_ble_eq_true rfl) d_Ref_turnedInto_228 ⟨Nat.zero_le _, Nat.zero_le _⟩ ?_
              refine lv_goto (tgt := 235) hx hb d_Ref_turnedInto_231 (by decide) ?_
              exact (by rw [if_pos c_74] at hj; exact hj)
          refine lv_iload hx hb d_Ref_turnedInto_235 (lv_at hl 0 rfl) ?_
          refine jn_ (J := 245) (ls := ls) (v := .int (if (if (a0 - a0 / (2 : Int32) * (2 : Int32)) = 0 then (1 : Int32) else (0 : Int32)) = 0 then (1 : Int32) else (0 : Int32))) (rest := [.long (if a0 = (183 : Int32) then (q_Ref_withSign a1 (32 : Int32)) else a1), .ref o]) (fun hj => ?_) ?_
          · refine lv_if_ne (tgt := 244) hx hb d_Ref_turnedInto_237 (by decide) (fun c_75 => ?_) (fun c_75 => ?_)
            · refine lv_iconst (v := (0 : Int32)) hx hb d_Ref_turnedInto_244 (by decide) ?_
              exact (by rw [if_neg c_75] at hj; exact hj)
            · refine lv_iconst (v := (1 : Int32)) hx hb d_Ref_turnedInto_240 (by decide) ?_
              refine lv_goto (tgt := 245) hx hb d_Ref_turnedInto_241 (by decide) ?_
              exact (by rw [if_pos c_75] at hj; exact hj)
          refine rq_ (As := [.long (if a0 = (183 : Int32) then (q_Ref_withSign a1 (32 : Int32)) else a1), .int (if (if (a0 - a0 / (2 : Int32) * (2 : Int32)) = 0 then (1 : Int32) else (0 : Int32)) = 0 then (1 : Int32) else (0 : Int32))]) (rest := []) hq hA hP hS (c_Ref_floating l A ad D cB cJ o r hne hA cd la lo hi re (q_Ref_format_wi (64 : Int32)) (q_Ref_format_fr (64 : Int32)) (q_Ref_format_bi (64 : Int32)) mi am we f N hf hI hre (if a0 = (183 : Int32) then (q_Ref_withSign a1 (32 : Int32)) else a1) (if (if (a0 - a0 / (2 : Int32) * (2 : Int32)) = 0 then (1 : Int32) else (0 : Int32)) = 0 then (1 : Int32) else (0 : Int32)) (fF (64 : Int32)) (fB (64 : Int32)) (fm_of (Or.inr rfl))) kB_Ref_floating wt_603 ⟨rfl, rfl, Nat.le_of_ble_eq_true rfl, Nat.le_of_ble_eq_true rfl⟩ rfl hl.1 rfl (Nat.le_of_ble_eq_true rfl) d_Ref_turnedInto_245 ⟨Nat.zero_le _, Nat.zero_le _⟩ (fun v9 fs9 f_76 H locs hk9 hP hS => ?_)
          obtain ⟨rfl, lo_76, hi_76, re_76, wi_76, fr_76, bi_76, mi_76, am_76, we_76, N_76, rfl, hre_76, hf_76, hI_76⟩ := hk9
          exact qr_l hq hr hk hP hS ⟨congrArg (fun z => some (Value.long z)) (by unfold q_Ref_turnedInto; exact (((if_pos c_2).trans ((if_neg c_3).trans ((if_pos c_48).trans ((if_neg c_49).trans ((if_neg c_51).trans ((if_neg c_53).trans ((if_neg c_57).trans ((if_neg c_61).trans ((if_neg c_65).trans ((if_neg c_69).trans ((if_pos c_73).trans rfl)))))))))))).symm), _, _, _, _, _, _, _, _, _, _, (by rw [show q_Ref_turnedInto_cd cd a0 a1 = cd from by unfold q_Ref_turnedInto_cd; exact ((if_pos c_2).trans ((if_neg c_3).trans ((if_pos c_48).trans ((if_neg c_49).trans ((if_neg c_51).trans ((if_neg c_53).trans ((if_neg c_57).trans ((if_neg c_61).trans ((if_neg c_65).trans ((if_neg c_69).trans ((if_pos c_73).trans rfl)))))))))))]; first | done | rfl), hre_76, hf_76, hI_76⟩ d_Ref_turnedInto_248
        by_cases c_77 : a0 = (184 : Int32)
        · refine lv_tableIn (tgt := 211) hx hb d_Ref_turnedInto_83 (by rw [c_77]; decide) (by rw [c_77]; decide) (by rw [c_77]; rfl) (by decide) ?_
          refine lv_aload_n hx hb d_Ref_turnedInto_211 rfl (lv_at hl 1 rfl) ?_
          refine lv_bipush (v := (64 : Int32)) hx hb d_Ref_turnedInto_212 (by decide) ?_
          refine rv_v (As := [.int (64 : Int32)]) (rest := []) hq hA hP hS (c_Ref_format l A ad D cB cJ o r hne hA cd la lo hi re wi fr bi mi am we f (64 : Int32)) kB_Ref_format wt_558 ⟨rfl, rfl, Nat.le_of_ble_eq_true rfl, Nat.le_of_ble_eq_true rfl⟩ rfl hl.1 rfl (Nat.le_of_ble_eq_true rfl) d_Ref_turnedInto_214 ⟨Nat.zero_le _, Nat.zero_le _⟩ (fun H locs hP hS => ?_)
          refine lv_aload_n hx hb d_Ref_turnedInto_217 rfl (lv_at hl 1 rfl) ?_
          refine lv_iload_n hx hb d_Ref_turnedInto_218 rfl (lv_at hl 2 rfl) ?_
          refine lv_sipush (v := (183 : Int32)) hx hb d_Ref_turnedInto_219 (by decide) ?_
          refine jn_ (J := 235) (ls := ls) (v := .long (if a0 = (183 : Int32) then (q_Ref_withSign a1 (32 : Int32)) else a1)) (rest := [.ref o]) (fun hj => ?_) ?_
          · refine lv_icmp_ne (tgt := 234) hx hb d_Ref_turnedInto_222 (by decide) (fun c_78 => ?_) (fun c_78 => ?_)
            · refine lv_lload_n hx hb d_Ref_turnedInto_234 rfl (lv_at hl 3 rfl) ?_
              exact (by rw [if_neg c_78] at hj; exact hj)
            · refine lv_lload_n hx hb d_Ref_turnedInto_225 rfl (lv_at hl 3 rfl) ?_
              refine lv_bipush (v := (32 : Int32)) hx hb d_Ref_turnedInto_226 (by decide) ?_
              refine hl_ (As := [.long a1, .int (32 : Int32)]) (rest := [.ref o]) hq hA hS (c_Ref_withSign l A ad a1 (32 : Int32)) kB_Ref_withSign wt_600 ⟨rfl, rfl, Nat.le_of_ble_eq_true rfl, Nat.le_of_ble_eq_true rfl⟩ rfl hl.1 rfl (Nat.le_of_ble_eq_true rfl) d_Ref_turnedInto_228 ⟨Nat.zero_le _, Nat.zero_le _⟩ ?_
              refine lv_goto (tgt := 235) hx hb d_Ref_turnedInto_231 (by decide) ?_
              exact (by rw [if_pos c_78] at hj; exact hj)
          refine lv_iload hx hb d_Ref_turnedInto_235 (lv_at hl 0 rfl) ?_
          refine jn_ (J := 245) (ls := ls) (v := .int (if (if (a0 - a0 / (2 : Int32) * (2 : Int32)) = 0 then (1 : Int32) else (0 : Int32)) = 0 then (1 : Int32) else (0 : Int32))) (rest := [.long (if a0 = (183 : Int32) then (q_Ref_withSign a1 (32 : Int32)) else a1), .ref o]) (fun hj => ?_) ?_
          · refine lv_if_ne (tgt := 244) hx hb d_Ref_turnedInto_237 (by decide) (fun c_79 => ?_) (fun c_79 => ?_)
            · refine lv_iconst (v := (0 : Int32)) hx hb d_Ref_turnedInto_244 (by decide) ?_
              exact (by rw [if_neg c_79] at hj; exact hj)
            · refine lv_iconst (v := (1 : Int32)) hx hb d_Ref_turnedInto_240 (by decide) ?_
              refine lv_goto (tgt := 245) hx hb d_Ref_turnedInto_241 (by decide) ?_
              exact (by rw [if_pos c_79] at hj; exact hj)
          refine rq_ (As := [.long (if a0 = (183 : Int32) then (q_Ref_withSign a1 (32 : Int32)) else a1), .int (if (if (a0 - a0 / (2 : Int32) * (2 : Int32)) = 0 then (1 : Int32) else (0 : Int32)) = 0 then (1 : Int32) else (0 : Int32))]) (rest := []) hq hA hP hS (c_Ref_floating l A ad D cB cJ o r hne hA cd la lo hi re (q_Ref_format_wi (64 : Int32)) (q_Ref_format_fr (64 : Int32)) (q_Ref_format_bi (64 : Int32)) mi am we f N hf hI hre (if a0 = (183 : Int32) then (q_Ref_withSign a1 (32 : Int32)) else a1) (if (if (a0 - a0 / (2 : Int32) * (2 : Int32)) = 0 then (1 : Int32) else (0 : Int32)) = 0 then (1 : Int32) else (0 : Int32)) (fF (64 : Int32)) (fB (64 : Int32)) (fm_of (Or.inr rfl))) kB_Ref_floating wt_603 ⟨rfl, rfl, Nat.le_of_ble_eq_true rfl, Nat.le_of_ble_eq_true rfl⟩ rfl hl.1 rfl (Nat.le_of_ble_eq_true rfl) d_Ref_turnedInto_245 ⟨Nat.zero_le _, Nat.zero_le _⟩ (fun v9 fs9 f_80 H locs hk9 hP hS => ?_)
          obtain ⟨rfl, lo_80, hi_80, re_80, wi_80, fr_80, bi_80, mi_80, am_80, we_80, N_80, rfl, hre_80, hf_80, hI_80⟩ := hk9
          exact qr_l hq hr hk hP hS ⟨congrArg (fun z => some (Value.long z)) (by unfold q_Ref_turnedInto; exact (((if_pos c_2).trans ((if_neg c_3).trans ((if_pos c_48).trans ((if_neg c_49).trans ((if_neg c_51).trans ((if_neg c_53).trans ((if_neg c_57).trans ((if_neg c_61).trans ((if_neg c_65).trans ((if_neg c_69).trans ((if_neg c_73).trans ((if_pos c_77).trans rfl))))))))))))).symm), _, _, _, _, _, _, _, _, _, _, (by rw [show q_Ref_turnedInto_cd cd a0 a1 = cd from by unfold q_Ref_turnedInto_cd; exact ((if_pos c_2).trans ((if_neg c_3).trans ((if_pos c_48).trans ((if_neg c_49).trans ((if_neg c_51).trans ((if_neg c_53).trans ((if_neg c_57).trans ((if_neg c_61).trans ((if_neg c_65).trans ((if_neg c_69).trans ((if_neg c_73).trans ((if_pos c_77).trans rfl))))))))))))]; first | done | rfl), hre_80, hf_80, hI_80⟩ d_Ref_turnedInto_248
        by_cases c_81 : a0 = (185 : Int32)
        · refine lv_tableIn (tgt := 211) hx hb d_Ref_turnedInto_83 (by rw [c_81]; decide) (by rw [c_81]; decide) (by rw [c_81]; rfl) (by decide) ?_
          refine lv_aload_n hx hb d_Ref_turnedInto_211 rfl (lv_at hl 1 rfl) ?_
          refine lv_bipush (v := (64 : Int32)) hx hb d_Ref_turnedInto_212 (by decide) ?_
          refine rv_v (As := [.int (64 : Int32)]) (rest := []) hq hA hP hS (c_Ref_format l A ad D cB cJ o r hne hA cd la lo hi re wi fr bi mi am we f (64 : Int32)) kB_Ref_format wt_558 ⟨rfl, rfl, Nat.le_of_ble_eq_true rfl, Nat.le_of_ble_eq_true rfl⟩ rfl hl.1 rfl (Nat.le_of_ble_eq_true rfl) d_Ref_turnedInto_214 ⟨Nat.zero_le _, Nat.zero_le _⟩ (fun H locs hP hS => ?_)
          refine lv_aload_n hx hb d_Ref_turnedInto_217 rfl (lv_at hl 1 rfl) ?_
          refine lv_iload_n hx hb d_Ref_turnedInto_218 rfl (lv_at hl 2 rfl) ?_
          refine lv_sipush (v := (183 : Int32)) hx hb d_Ref_turnedInto_219 (by decide) ?_
          refine jn_ (J := 235) (ls := ls) (v := .long (if a0 = (183 : Int32) then (q_Ref_withSign a1 (32 : Int32)) else a1)) (rest := [.ref o]) (fun hj => ?_) ?_
          · refine lv_icmp_ne (tgt := 234) hx hb d_Ref_turnedInto_222 (by decide) (fun c_82 => ?_) (fun c_82 => ?_)
            · refine lv_lload_n hx hb d_Ref_turnedInto_234 rfl (lv_at hl 3 rfl) ?_
              exact (by rw [if_neg c_82] at hj; exact hj)
            · refine lv_lload_n hx hb d_Ref_turnedInto_225 rfl (lv_at hl 3 rfl) ?_
              refine lv_bipush (v := (32 : Int32)) hx hb d_Ref_turnedInto_226 (by decide) ?_
              refine hl_ (As := [.long a1, .int (32 : Int32)]) (rest := [.ref o]) hq hA hS (c_Ref_withSign l A ad a1 (32 : Int32)) kB_Ref_withSign wt_600 ⟨rfl, rfl, Nat.le_of_ble_eq_true rfl, Nat.le_of_ble_eq_true rfl⟩ rfl hl.1 rfl (Nat.le_of_ble_eq_true rfl) d_Ref_turnedInto_228 ⟨Nat.zero_le _, Nat.zero_le _⟩ ?_
              refine lv_goto (tgt := 235) hx hb d_Ref_turnedInto_231 (by decide) ?_
              exact (by rw [if_pos c_82] at hj; exact hj)
          refine lv_iload hx hb d_Ref_turnedInto_235 (lv_at hl 0 rfl) ?_
          refine jn_ (J := 245) (ls := ls) (v := .int (if (if (a0 - a0 / (2 : Int32) * (2 : Int32)) = 0 then (1 : Int32) else (0 : Int32)) = 0 then (1 : Int32) else (0 : Int32))) (rest := [.long (if a0 = (183 : Int32) then (q_Ref_withSign a1 (32 : Int32)) else a1), .ref o]) (fun hj => ?_) ?_
          · refine lv_if_ne (tgt := 244) hx hb d_Ref_turnedInto_237 (by decide) (fun c_83 => ?_) (fun c_83 => ?_)
            · refine lv_iconst (v := (0 : Int32)) hx hb d_Ref_turnedInto_244 (by decide) ?_
              exact (by rw [if_neg c_83] at hj; exact hj)
            · refine lv_iconst (v := (1 : Int32)) hx hb d_Ref_turnedInto_240 (by decide) ?_
              refine lv_goto (tgt := 245) hx hb d_Ref_turnedInto_241 (by decide) ?_
              exact (by rw [if_pos c_83] at hj; exact hj)
          refine rq_ (As := [.long (if a0 = (183 : Int32) then (q_Ref_withSign a1 (32 : Int32)) else a1), .int (if (if (a0 - a0 / (2 : Int32) * (2 : Int32)) = 0 then (1 : Int32) else (0 : Int32)) = 0 then (1 : Int32) else (0 : Int32))]) (rest := []) hq hA hP hS (c_Ref_floating l A ad D cB cJ o r hne hA cd la lo hi re (q_Ref_format_wi (64 : Int32)) (q_Ref_format_fr (64 : Int32)) (q_Ref_format_bi (64 : Int32)) mi am we f N hf hI hre (if a0 = (183 : Int32) then (q_Ref_withSign a1 (32 : Int32)) else a1) (if (if (a0 - a0 / (2 : Int32) * (2 : Int32)) = 0 then (1 : Int32) else (0 : Int32)) = 0 then (1 : Int32) else (0 : Int32)) (fF (64 : Int32)) (fB (64 : Int32)) (fm_of (Or.inr rfl))) kB_Ref_floating wt_603 ⟨rfl, rfl, Nat.le_of_ble_eq_true rfl, Nat.le_of_ble_eq_true rfl⟩ rfl hl.1 rfl (Nat.le_of_ble_eq_true rfl) d_Ref_turnedInto_245 ⟨Nat.zero_le _, Nat.zero_le _⟩ (fun v9 fs9 f_84 H locs hk9 hP hS => ?_)
          obtain ⟨rfl, lo_84, hi_84, re_84, wi_84, fr_84, bi_84, mi_84, am_84, we_84, N_84, rfl, hre_84, hf_84, hI_84⟩ := hk9
          exact qr_l hq hr hk hP hS ⟨congrArg (fun z => some (Value.long z)) (by unfold q_Ref_turnedInto; exact (((if_pos c_2).trans ((if_neg c_3).trans ((if_pos c_48).trans ((if_neg c_49).trans ((if_neg c_51).trans ((if_neg c_53).trans ((if_neg c_57).trans ((if_neg c_61).trans ((if_neg c_65).trans ((if_neg c_69).trans ((if_neg c_73).trans ((if_neg c_77).trans ((if_pos c_81).trans rfl)))))))))))))).symm), _, _, _, _, _, _, _, _, _, _, (by rw [show q_Ref_turnedInto_cd cd a0 a1 = cd from by unfold q_Ref_turnedInto_cd; exact ((if_pos c_2).trans ((if_neg c_3).trans ((if_pos c_48).trans ((if_neg c_49).trans ((if_neg c_51).trans ((if_neg c_53).trans ((if_neg c_57).trans ((if_neg c_61).trans ((if_neg c_65).trans ((if_neg c_69).trans ((if_neg c_73).trans ((if_neg c_77).trans ((if_pos c_81).trans rfl)))))))))))))]; first | done | rfl), hre_84, hf_84, hI_84⟩ d_Ref_turnedInto_248
        by_cases c_85 : a0 = (186 : Int32)
        · refine lv_tableIn (tgt := 211) hx hb d_Ref_turnedInto_83 (by rw [c_85]; decide) (by rw [c_85]; decide) (by rw [c_85]; rfl) (by decide) ?_
          refine lv_aload_n hx hb d_Ref_turnedInto_211 rfl (lv_at hl 1 rfl) ?_
          refine lv_bipush (v := (64 : Int32)) hx hb d_Ref_turnedInto_212 (by decide) ?_
          refine rv_v (As := [.int (64 : Int32)]) (rest := []) hq hA hP hS (c_Ref_format l A ad D cB cJ o r hne hA cd la lo hi re wi fr bi mi am we f (64 : Int32)) kB_Ref_format wt_558 ⟨rfl, rfl, Nat.le_of_ble_eq_true rfl, Nat.le_of_ble_eq_true rfl⟩ rfl hl.1 rfl (Nat.le_of_ble_eq_true rfl) d_Ref_turnedInto_214 ⟨Nat.zero_le _, Nat.zero_le _⟩ (fun H locs hP hS => ?_)
          refine lv_aload_n hx hb d_Ref_turnedInto_217 rfl (lv_at hl 1 rfl) ?_
          refine lv_iload_n hx hb d_Ref_turnedInto_218 rfl (lv_at hl 2 rfl) ?_
          refine lv_sipush (v := (183 : Int32)) hx hb d_Ref_turnedInto_219 (by decide) ?_
          refine jn_ (J := 235) (ls := ls) (v := .long (if a0 = (183 : Int32) then (q_Ref_withSign a1 (32 : Int32)) else a1)) (rest := [.ref o]) (fun hj => ?_) ?_
          · refine lv_icmp_ne (tgt := 234) hx hb d_Ref_turnedInto_222 (by decide) (fun c_86 => ?_) (fun c_86 => ?_)
            · refine lv_lload_n hx hb d_Ref_turnedInto_234 rfl (lv_at hl 3 rfl) ?_
              exact (by rw [if_neg c_86] at hj; exact hj)
            · refine lv_lload_n hx hb d_Ref_turnedInto_225 rfl (lv_at hl 3 rfl) ?_
              refine lv_bipush (v := (32 : Int32)) hx hb d_Ref_turnedInto_226 (by decide) ?_
              refine hl_ (As := [.long a1, .int (32 : Int32)]) (rest := [.ref o]) hq hA hS (c_Ref_withSign l A ad a1 (32 : Int32)) kB_Ref_withSign wt_600 ⟨rfl, rfl, Nat.le_of_ble_eq_true rfl, Nat.le_of_ble_eq_true rfl⟩ rfl hl.1 rfl (Nat.le_of_ble_eq_true rfl) d_Ref_turnedInto_228 ⟨Nat.zero_le _, Nat.zero_le _⟩ ?_
              refine lv_goto (tgt := 235) hx hb d_Ref_turnedInto_231 (by decide) ?_
              exact (by rw [if_pos c_86] at hj; exact hj)
          refine lv_iload hx hb d_Ref_turnedInto_235 (lv_at hl 0 rfl) ?_
          refine jn_ (J := 245) (ls := ls) (v := .int (if (if (a0 - a0 / (2 : Int32) * (2 : Int32)) = 0 then (1 : Int32) else (0 : Int32)) = 0 then (1 : Int32) else (0 : Int32))) (rest := [.long (if a0 = (183 : Int32) then (q_Ref_withSign a1 (32 : Int32)) else a1), .ref o]) (fun hj => ?_) ?_
          · refine lv_if_ne (tgt := 244) hx hb d_Ref_turnedInto_237 (by decide) (fun c_87 => ?_) (fun c_87 => ?_)
            · refine lv_iconst (v := (0 : Int32)) hx hb d_Ref_turnedInto_244 (by decide) ?_
              exact (by rw [if_neg c_87] at hj; exact hj)
            · refine lv_iconst (v := (1 : Int32)) hx hb d_Ref_turnedInto_240 (by decide) ?_
              refine lv_goto (tgt := 245) hx hb d_Ref_turnedInto_241 (by decide) ?_
              exact (by rw [if_pos c_87] at hj; exact hj)
          refine rq_ (As := [.long (if a0 = (183 : Int32) then (q_Ref_withSign a1 (32 : Int32)) else a1), .int (if (if (a0 - a0 / (2 : Int32) * (2 : Int32)) = 0 then (1 : Int32) else (0 : Int32)) = 0 then (1 : Int32) else (0 : Int32))]) (rest := []) hq hA hP hS (c_Ref_floating l A ad D cB cJ o r hne hA cd la lo hi re (q_Ref_format_wi (64 : Int32)) (q_Ref_format_fr (64 : Int32)) (q_Ref_format_bi (64 : Int32)) mi am we f N hf hI hre (if a0 = (183 : Int32) then (q_Ref_withSign a1 (32 : Int32)) else a1) (if (if (a0 - a0 / (2 : Int32) * (2 : Int32)) = 0 then (1 : Int32) else (0 : Int32)) = 0 then (1 : Int32) else (0 : Int32)) (fF (64 : Int32)) (fB (64 : Int32)) (fm_of (Or.inr rfl))) kB_Ref_floating wt_603 ⟨rfl, rfl, Nat.le_of_ble_eq_true rfl, Nat.le_of_ble_eq_true rfl⟩ rfl hl.1 rfl (Nat.le_of_ble_eq_true rfl) d_Ref_turnedInto_245 ⟨Nat.zero_le _, Nat.zero_le _⟩ (fun v9 fs9 f_88 H locs hk9 hP hS => ?_)
          obtain ⟨rfl, lo_88, hi_88, re_88, wi_88, fr_88, bi_88, mi_88, am_88, we_88, N_88, rfl, hre_88, hf_88, hI_88⟩ := hk9
          exact qr_l hq hr hk hP hS ⟨congrArg (fun z => some (Value.long z)) (by unfold q_Ref_turnedInto; exact (((if_pos c_2).trans ((if_neg c_3).trans ((if_pos c_48).trans ((if_neg c_49).trans ((if_neg c_51).trans ((if_neg c_53).trans ((if_neg c_57).trans ((if_neg c_61).trans ((if_neg c_65).trans ((if_neg c_69).trans ((if_neg c_73).trans ((if_neg c_77).trans ((if_neg c_81).trans ((if_pos c_85).trans rfl))))))))))))))).symm), _, _, _, _, _, _, _, _, _, _, (by rw [show q_Ref_turnedInto_cd cd a0 a1 = cd from by unfold q_Ref_turnedInto_cd; exact ((if_pos c_2).trans ((if_neg c_3).trans ((if_pos c_48).trans ((if_neg c_49).trans ((if_neg c_51).trans ((if_neg c_53).trans ((if_neg c_57).trans ((if_neg c_61).trans ((if_neg c_65).trans ((if_neg c_69).trans ((if_neg c_73).trans ((if_neg c_77).trans ((if_neg c_81).trans ((if_pos c_85).trans rfl))))))))))))))]; first | done | rfl), hre_88, hf_88, hI_88⟩ d_Ref_turnedInto_248
        by_cases c_89 : a0 = (187 : Int32)
        · refine lv_tableIn (tgt := 249) hx hb d_Ref_turnedInto_83 (by rw [c_89]; decide) (by rw [c_89]; decide) (by rw [c_89]; rfl) (by decide) ?_
          refine lv_aload_n hx hb d_Ref_turnedInto_249 rfl (lv_at hl 1 rfl) ?_
          refine lv_iload_n hx hb d_Ref_turnedInto_250 rfl (lv_at hl 2 rfl) ?_
          refine lv_sipush (v := (182 : Int32)) hx hb d_Ref_turnedInto_251 (by decide) ?_
          refine jn_ (J := 264) (ls := ls) (v := .int (if a0 = (182 : Int32) then (64 : Int32) else (32 : Int32))) (rest := [.ref o]) (fun hj => ?_) ?_
          · refine lv_icmp_ne (tgt := 262) hx hb d_Ref_turnedInto_254 (by decide) (fun c_90 => ?_) (fun c_90 => ?_)
            · refine lv_bipush (v := (32 : Int32)) hx hb d_Ref_turnedInto_262 (by decide) ?_
              exact (by rw [if_neg c_90] at hj; exact hj)
            · refine lv_bipush (v := (64 : Int32)) hx hb d_Ref_turnedInto_257 (by decide) ?_
              refine lv_goto (tgt := 264) hx hb d_Ref_turnedInto_259 (by decide) ?_
              exact (by rw [if_pos c_90] at hj; exact hj)
          refine rv_v (As := [.int (if a0 = (182 : Int32) then (64 : Int32) else (32 : Int32))]) (rest := []) hq hA hP hS (c_Ref_format l A ad D cB cJ o r hne hA cd la lo hi re wi fr bi mi am we f (if a0 = (182 : Int32) then (64 : Int32) else (32 : Int32))) kB_Ref_format wt_558 ⟨rfl, rfl, Nat.le_of_ble_eq_true rfl, Nat.le_of_ble_eq_true rfl⟩ rfl hl.1 rfl (Nat.le_of_ble_eq_true rfl) d_Ref_turnedInto_264 ⟨Nat.zero_le _, Nat.zero_le _⟩ (fun H locs hP hS => ?_)
          refine lv_aload_n hx hb d_Ref_turnedInto_267 rfl (lv_at hl 1 rfl) ?_
          refine lv_lload_n hx hb d_Ref_turnedInto_268 rfl (lv_at hl 3 rfl) ?_
          refine lv_iload_n hx hb d_Ref_turnedInto_269 rfl (lv_at hl 2 rfl) ?_
          refine lv_sipush (v := (182 : Int32)) hx hb d_Ref_turnedInto_270 (by decide) ?_
          refine jn_ (J := 283) (ls := ls) (v := .int (if a0 = (182 : Int32) then (32 : Int32) else (64 : Int32))) (rest := [.long a1, .ref o]) (fun hj => ?_) ?_
          · refine lv_icmp_ne (tgt := 281) hx hb d_Ref_turnedInto_273 (by decide) (fun c_91 => ?_) (fun c_91 => ?_)
            · refine lv_bipush (v := (64 : Int32)) hx hb d_Ref_turnedInto_281 (by decide) ?_
              exact (by rw [if_neg c_91] at hj; exact hj)
            · refine lv_bipush (v := (32 : Int32)) hx hb d_Ref_turnedInto_276 (by decide) ?_
              refine lv_goto (tgt := 283) hx hb d_Ref_turnedInto_278 (by decide) ?_
              exact (by rw [if_pos c_91] at hj; exact hj)
          refine rq_ (As := [.long a1, .int (if a0 = (182 : Int32) then (32 : Int32) else (64 : Int32))]) (rest := []) hq hA hP hS (c_Ref_reformed l A ad D cB cJ o r hne hA cd la lo hi re (q_Ref_format_wi (if a0 = (182 : Int32) then (64 : Int32) else (32 : Int32))) (q_Ref_format_fr (if a0 = (182 : Int32) then (64 : Int32) else (32 : Int32))) (q_Ref_format_bi (if a0 = (182 : Int32) then (64 : Int32) else (32 : Int32))) mi am we f N hf hI hre a1 (if a0 = (182 : Int32) then (32 : Int32) else (64 : Int32)) (fF (if a0 = (182 : Int32) then (64 : Int32) else (32 : Int32))) (fB (if a0 = (182 : Int32) then (64 : Int32) else (32 : Int32))) (fm_of (by (repeat' split) <;> first | exact Or.inl rfl | exact Or.inr rfl)) (fF (if a0 = (182 : Int32) then (32 : Int32) else (64 : Int32))) (fB (if a0 = (182 : Int32) then (32 : Int32) else (64 : Int32))) (fm_of (by (repeat' split) <;> first | exact Or.inl rfl | exact Or.inr rfl))) kB_Ref_reformed wt_631 ⟨rfl, rfl, Nat.le_of_ble_eq_true rfl, Nat.le_of_ble_eq_true rfl⟩ rfl hl.1 rfl (Nat.le_of_ble_eq_true rfl) d_Ref_turnedInto_283 ⟨Nat.zero_le _, Nat.zero_le _⟩ (fun v9 fs9 f_92 H locs hk9 hP hS => ?_)
          obtain ⟨rfl, lo_92, hi_92, re_92, wi_92, fr_92, bi_92, mi_92, am_92, we_92, N_92, rfl, hre_92, hf_92, hI_92⟩ := hk9
          exact qr_l hq hr hk hP hS ⟨congrArg (fun z => some (Value.long z)) (by unfold q_Ref_turnedInto; exact (((if_pos c_2).trans ((if_neg c_3).trans ((if_pos c_48).trans ((if_neg c_49).trans ((if_neg c_51).trans ((if_neg c_53).trans ((if_neg c_57).trans ((if_neg c_61).trans ((if_neg c_65).trans ((if_neg c_69).trans ((if_neg c_73).trans ((if_neg c_77).trans ((if_neg c_81).trans ((if_neg c_85).trans ((if_pos c_89).trans rfl)))))))))))))))).symm), _, _, _, _, _, _, _, _, _, _, (by rw [show q_Ref_turnedInto_cd cd a0 a1 = cd from by unfold q_Ref_turnedInto_cd; exact ((if_pos c_2).trans ((if_neg c_3).trans ((if_pos c_48).trans ((if_neg c_49).trans ((if_neg c_51).trans ((if_neg c_53).trans ((if_neg c_57).trans ((if_neg c_61).trans ((if_neg c_65).trans ((if_neg c_69).trans ((if_neg c_73).trans ((if_neg c_77).trans ((if_neg c_81).trans ((if_neg c_85).trans ((if_pos c_89).trans rfl)))))))))))))))]; first | done | rfl), hre_92, hf_92, hI_92⟩ d_Ref_turnedInto_286
        have hsw : a0.toInt < 172 ∨ 187 < a0.toInt ∨ a0.toInt = 174 ∨ a0.toInt = 175 ∨ a0.toInt = 176 ∨ a0.toInt = 177 := by
          have := lv_neT c_49 (a := 172) (by decide)
          have := lv_neT c_51 (a := 173) (by decide)
          have := lv_neT c_53 (a := 178) (by decide)
          have := lv_neT c_57 (a := 179) (by decide)
          have := lv_neT c_61 (a := 180) (by decide)
          have := lv_neT c_65 (a := 181) (by decide)
          have := lv_neT c_69 (a := 182) (by decide)
          have := lv_neT c_73 (a := 183) (by decide)
          have := lv_neT c_77 (a := 184) (by decide)
          have := lv_neT c_81 (a := 185) (by decide)
          have := lv_neT c_85 (a := 186) (by decide)
          have := lv_neT c_89 (a := 187) (by decide)
          omega
        have hs2 : a0.toInt < 172 ∨ 187 < a0.toInt ∨ (¬ a0.toInt < 172 ∧ ¬ 187 < a0.toInt ∧ (#[77, 77, 204, 204, 204, 204, 93, 93, 93, 93, 166, 128, 128, 128, 128, 166] : Array Int)[(a0.toInt - 172).toNat]? = some 204) := by
          rcases hsw with h9 | h9 | h9 | h9 | h9 | h9
          · exact Or.inl h9
          · exact Or.inr (Or.inl h9)
          all_goals exact Or.inr (Or.inr ⟨by rw [h9]; decide, by rw [h9]; decide, by rw [h9] <;> rfl⟩)
        refine tb_dflt (tgt := 287) hx hb d_Ref_turnedInto_83 hs2 (by decide) ?_
        refine lv_lload_n hx hb d_Ref_turnedInto_287 rfl (lv_at hl 3 rfl) ?_
        exact qr_l hq hr hk hP hS ⟨congrArg (fun z => some (Value.long z)) (by unfold q_Ref_turnedInto; exact (((if_pos c_2).trans ((if_neg c_3).trans ((if_pos c_48).trans ((if_neg c_49).trans ((if_neg c_51).trans ((if_neg c_53).trans ((if_neg c_57).trans ((if_neg c_61).trans ((if_neg c_65).trans ((if_neg c_69).trans ((if_neg c_73).trans ((if_neg c_77).trans ((if_neg c_81).trans ((if_neg c_85).trans ((if_neg c_89).trans rfl)))))))))))))))).symm), _, _, _, _, _, _, _, _, _, _, (by rw [show q_Ref_turnedInto_cd cd a0 a1 = cd from by unfold q_Ref_turnedInto_cd; exact ((if_pos c_2).trans ((if_neg c_3).trans ((if_pos c_48).trans ((if_neg c_49).trans ((if_neg c_51).trans ((if_neg c_53).trans ((if_neg c_57).trans ((if_neg c_61).trans ((if_neg c_65).trans ((if_neg c_69).trans ((if_neg c_73).trans ((if_neg c_77).trans ((if_neg c_81).trans ((if_neg c_85).trans ((if_neg c_89).trans rfl)))))))))))))))]; first | done | rfl), hre, hf, hI⟩ d_Ref_turnedInto_288
      · refine lv_aload_n hx hb d_Ref_turnedInto_41 rfl (lv_at hl 1 rfl) ?_
        refine lv_iload_n hx hb d_Ref_turnedInto_42 rfl (lv_at hl 2 rfl) ?_
        refine hi_ (As := [.int a0]) (rest := [.ref o]) hq hA hS (c_Ref_first l A ad a0) kB_Ref_first wt_539 ⟨rfl, rfl, Nat.le_of_ble_eq_true rfl, Nat.le_of_ble_eq_true rfl⟩ rfl hl.1 rfl (Nat.le_of_ble_eq_true rfl) d_Ref_turnedInto_43 ⟨Nat.zero_le _, Nat.zero_le _⟩ ?_
        refine lv_iconst (v := (2 : Int32)) hx hb d_Ref_turnedInto_46 (by decide) ?_
        refine jn_ (J := 57) (ls := ls) (v := .int (if (q_Ref_first a0) = (2 : Int32) then (32 : Int32) else (64 : Int32))) (rest := [.ref o]) (fun hj => ?_) ?_
        · refine lv_icmp_ne (tgt := 55) hx hb d_Ref_turnedInto_47 (by decide) (fun c_93 => ?_) (fun c_93 => ?_)
          · refine lv_bipush (v := (64 : Int32)) hx hb d_Ref_turnedInto_55 (by decide) ?_
            exact (by rw [if_neg c_93] at hj; exact hj)
          · refine lv_bipush (v := (32 : Int32)) hx hb d_Ref_turnedInto_50 (by decide) ?_
            refine lv_goto (tgt := 57) hx hb d_Ref_turnedInto_52 (by decide) ?_
            exact (by rw [if_pos c_93] at hj; exact hj)
        refine rv_v (As := [.int (if (q_Ref_first a0) = (2 : Int32) then (32 : Int32) else (64 : Int32))]) (rest := []) hq hA hP hS (c_Ref_format l A ad D cB cJ o r hne hA cd la lo hi re wi fr bi mi am we f (if (q_Ref_first a0) = (2 : Int32) then (32 : Int32) else (64 : Int32))) kB_Ref_format wt_558 ⟨rfl, rfl, Nat.le_of_ble_eq_true rfl, Nat.le_of_ble_eq_true rfl⟩ rfl hl.1 rfl (Nat.le_of_ble_eq_true rfl) d_Ref_turnedInto_57 ⟨Nat.zero_le _, Nat.zero_le _⟩ (fun H locs hP hS => ?_)
        refine lv_aload_n hx hb d_Ref_turnedInto_60 rfl (lv_at hl 1 rfl) ?_
        refine lv_lload_n hx hb d_Ref_turnedInto_61 rfl (lv_at hl 3 rfl) ?_
        refine lv_iload_n hx hb d_Ref_turnedInto_62 rfl (lv_at hl 2 rfl) ?_
        refine lv_sipush (v := (172 : Int32)) hx hb d_Ref_turnedInto_63 (by decide) ?_
        refine jn_ (J := 76) (ls := ls) (v := .int (if (172 : Int32) ≤ a0 then (64 : Int32) else (32 : Int32))) (rest := [.long a1, .ref o]) (fun hj => ?_) ?_
        · refine lv_icmp_ge (tgt := 74) hx hb d_Ref_turnedInto_66 (by decide) (fun c_94 => ?_) (fun c_94 => ?_)
          · refine lv_bipush (v := (64 : Int32)) hx hb d_Ref_turnedInto_74 (by decide) ?_
            exact (by rw [if_pos c_94] at hj; exact hj)
          · refine lv_bipush (v := (32 : Int32)) hx hb d_Ref_turnedInto_69 (by decide) ?_
            refine lv_goto (tgt := 76) hx hb d_Ref_turnedInto_71 (by decide) ?_
            exact (by rw [if_neg c_94] at hj; exact hj)
        refine lv_iload hx hb d_Ref_turnedInto_76 (lv_at hl 0 rfl) ?_
        refine rv_l (As := [.long a1, .int (if (172 : Int32) ≤ a0 then (64 : Int32) else (32 : Int32)), .int (if (a0 - a0 / (2 : Int32) * (2 : Int32)) = 0 then (1 : Int32) else (0 : Int32))]) (rest := []) hq hA hP hS (c_Ref_cut l A ad D cB cJ o r hne hA cd la lo hi re (q_Ref_format_wi (if (q_Ref_first a0) = (2 : Int32) then (32 : Int32) else (64 : Int32))) (q_Ref_format_fr (if (q_Ref_first a0) = (2 : Int32) then (32 : Int32) else (64 : Int32))) (q_Ref_format_bi (if (q_Ref_first a0) = (2 : Int32) then (32 : Int32) else (64 : Int32))) mi am we f a1 (if (172 : Int32) ≤ a0 then (64 : Int32) else (32 : Int32)) (if (a0 - a0 / (2 : Int32) * (2 : Int32)) = 0 then (1 : Int32) else (0 : Int32))) kB_Ref_cut wt_562 ⟨rfl, rfl, Nat.le_of_ble_eq_true rfl, Nat.le_of_ble_eq_true rfl⟩ rfl hl.1 rfl (Nat.le_of_ble_eq_true rfl) d_Ref_turnedInto_78 ⟨Nat.zero_le _, Nat.zero_le _⟩ (fun H locs hP hS => ?_)
        exact qr_l hq hr hk hP hS ⟨congrArg (fun z => some (Value.long z)) (by unfold q_Ref_turnedInto; exact (((if_pos c_2).trans ((if_neg c_3).trans ((if_neg c_48).trans rfl)))).symm), _, _, _, _, _, _, _, _, _, _, (by rw [show q_Ref_turnedInto_cd cd a0 a1 = (q_Ref_cut_cd cd (q_Ref_format_wi (if (q_Ref_first a0) = (2 : Int32) then (32 : Int32) else (64 : Int32))) (q_Ref_format_fr (if (q_Ref_first a0) = (2 : Int32) then (32 : Int32) else (64 : Int32))) (q_Ref_format_bi (if (q_Ref_first a0) = (2 : Int32) then (32 : Int32) else (64 : Int32))) (0 : Int32) (0 : Int64) (0 : Int32) a1 (if (172 : Int32) ≤ a0 then (64 : Int32) else (32 : Int32)) (if (a0 - a0 / (2 : Int32) * (2 : Int32)) = 0 then (1 : Int32) else (0 : Int32))) from by unfold q_Ref_turnedInto_cd; exact ((if_pos c_2).trans ((if_neg c_3).trans ((if_neg c_48).trans rfl)))]; first | done | rfl), hre, hf, hI⟩ d_Ref_turnedInto_81
  · refine lv_iload_n hx hb d_Ref_turnedInto_20 rfl (lv_at hl 2 rfl) ?_
    refine lv_sipush (v := (171 : Int32)) hx hb d_Ref_turnedInto_21 (by decide) ?_
    refine lv_icmp_le (tgt := 41) hx hb d_Ref_turnedInto_24 (by decide) (fun c_95 => ?_) (fun c_95 => ?_)
    · refine lv_aload_n hx hb d_Ref_turnedInto_41 rfl (lv_at hl 1 rfl) ?_
      refine lv_iload_n hx hb d_Ref_turnedInto_42 rfl (lv_at hl 2 rfl) ?_
      refine hi_ (As := [.int a0]) (rest := [.ref o]) hq hA hS (c_Ref_first l A ad a0) kB_Ref_first wt_539 ⟨rfl, rfl, Nat.le_of_ble_eq_true rfl, Nat.le_of_ble_eq_true rfl⟩ rfl hl.1 rfl (Nat.le_of_ble_eq_true rfl) d_Ref_turnedInto_43 ⟨Nat.zero_le _, Nat.zero_le _⟩ ?_
      refine lv_iconst (v := (2 : Int32)) hx hb d_Ref_turnedInto_46 (by decide) ?_
      refine jn_ (J := 57) (ls := ls) (v := .int (if (q_Ref_first a0) = (2 : Int32) then (32 : Int32) else (64 : Int32))) (rest := [.ref o]) (fun hj => ?_) ?_
      · refine lv_icmp_ne (tgt := 55) hx hb d_Ref_turnedInto_47 (by decide) (fun c_96 => ?_) (fun c_96 => ?_)
        · refine lv_bipush (v := (64 : Int32)) hx hb d_Ref_turnedInto_55 (by decide) ?_
          exact (by rw [if_neg c_96] at hj; exact hj)
        · refine lv_bipush (v := (32 : Int32)) hx hb d_Ref_turnedInto_50 (by decide) ?_
          refine lv_goto (tgt := 57) hx hb d_Ref_turnedInto_52 (by decide) ?_
          exact (by rw [if_pos c_96] at hj; exact hj)
      refine rv_v (As := [.int (if (q_Ref_first a0) = (2 : Int32) then (32 : Int32) else (64 : Int32))]) (rest := []) hq hA hP hS (c_Ref_format l A ad D cB cJ o r hne hA cd la lo hi re wi fr bi mi am we f (if (q_Ref_first a0) = (2 : Int32) then (32 : Int32) else (64 : Int32))) kB_Ref_format wt_558 ⟨rfl, rfl, Nat.le_of_ble_eq_true rfl, Nat.le_of_ble_eq_true rfl⟩ rfl hl.1 rfl (Nat.le_of_ble_eq_true rfl) d_Ref_turnedInto_57 ⟨Nat.zero_le _, Nat.zero_le _⟩ (fun H locs hP hS => ?_)
      refine lv_aload_n hx hb d_Ref_turnedInto_60 rfl (lv_at hl 1 rfl) ?_
      refine lv_lload_n hx hb d_Ref_turnedInto_61 rfl (lv_at hl 3 rfl) ?_
      refine lv_iload_n hx hb d_Ref_turnedInto_62 rfl (lv_at hl 2 rfl) ?_
      refine lv_sipush (v := (172 : Int32)) hx hb d_Ref_turnedInto_63 (by decide) ?_
      refine jn_ (J := 76) (ls := ls) (v := .int (if (172 : Int32) ≤ a0 then (64 : Int32) else (32 : Int32))) (rest := [.long a1, .ref o]) (fun hj => ?_) ?_
      · refine lv_icmp_ge (tgt := 74) hx hb d_Ref_turnedInto_66 (by decide) (fun c_97 => ?_) (fun c_97 => ?_)
        · refine lv_bipush (v := (64 : Int32)) hx hb d_Ref_turnedInto_74 (by decide) ?_
          exact (by rw [if_pos c_97] at hj; exact hj)
        · refine lv_bipush (v := (32 : Int32)) hx hb d_Ref_turnedInto_69 (by decide) ?_
          refine lv_goto (tgt := 76) hx hb d_Ref_turnedInto_71 (by decide) ?_
          exact (by rw [if_neg c_97] at hj; exact hj)
      refine lv_iload hx hb d_Ref_turnedInto_76 (lv_at hl 0 rfl) ?_
      refine rv_l (As := [.long a1, .int (if (172 : Int32) ≤ a0 then (64 : Int32) else (32 : Int32)), .int (if (a0 - a0 / (2 : Int32) * (2 : Int32)) = 0 then (1 : Int32) else (0 : Int32))]) (rest := []) hq hA hP hS (c_Ref_cut l A ad D cB cJ o r hne hA cd la lo hi re (q_Ref_format_wi (if (q_Ref_first a0) = (2 : Int32) then (32 : Int32) else (64 : Int32))) (q_Ref_format_fr (if (q_Ref_first a0) = (2 : Int32) then (32 : Int32) else (64 : Int32))) (q_Ref_format_bi (if (q_Ref_first a0) = (2 : Int32) then (32 : Int32) else (64 : Int32))) mi am we f a1 (if (172 : Int32) ≤ a0 then (64 : Int32) else (32 : Int32)) (if (a0 - a0 / (2 : Int32) * (2 : Int32)) = 0 then (1 : Int32) else (0 : Int32))) kB_Ref_cut wt_562 ⟨rfl, rfl, Nat.le_of_ble_eq_true rfl, Nat.le_of_ble_eq_true rfl⟩ rfl hl.1 rfl (Nat.le_of_ble_eq_true rfl) d_Ref_turnedInto_78 ⟨Nat.zero_le _, Nat.zero_le _⟩ (fun H locs hP hS => ?_)
      exact qr_l hq hr hk hP hS ⟨congrArg (fun z => some (Value.long z)) (by unfold q_Ref_turnedInto; exact (((if_neg c_2).trans ((if_pos c_95).trans rfl))).symm), _, _, _, _, _, _, _, _, _, _, (by rw [show q_Ref_turnedInto_cd cd a0 a1 = (q_Ref_cut_cd cd (q_Ref_format_wi (if (q_Ref_first a0) = (2 : Int32) then (32 : Int32) else (64 : Int32))) (q_Ref_format_fr (if (q_Ref_first a0) = (2 : Int32) then (32 : Int32) else (64 : Int32))) (q_Ref_format_bi (if (q_Ref_first a0) = (2 : Int32) then (32 : Int32) else (64 : Int32))) (0 : Int32) (0 : Int64) (0 : Int32) a1 (if (172 : Int32) ≤ a0 then (64 : Int32) else (32 : Int32)) (if (a0 - a0 / (2 : Int32) * (2 : Int32)) = 0 then (1 : Int32) else (0 : Int32))) from by unfold q_Ref_turnedInto_cd; exact ((if_neg c_2).trans ((if_pos c_95).trans rfl))]; first | done | rfl), hre, hf, hI⟩ d_Ref_turnedInto_81
    · refine lv_iload_n hx hb d_Ref_turnedInto_27 rfl (lv_at hl 2 rfl) ?_
      refine lv_sipush (v := (174 : Int32)) hx hb d_Ref_turnedInto_28 (by decide) ?_
      refine lv_icmp_lt (tgt := 82) hx hb d_Ref_turnedInto_31 (by decide) (fun c_98 => ?_) (fun c_98 => ?_)
      · refine lv_iload_n hx hb d_Ref_turnedInto_82 rfl (lv_at hl 2 rfl) ?_
        by_cases c_99 : a0 = (172 : Int32)
        · refine lv_tableIn (tgt := 160) hx hb d_Ref_turnedInto_83 (by rw [c_99]; decide) (by rw [c_99]; decide) (by rw [c_99]; rfl) (by decide) ?_
          refine lv_iload hx hb d_Ref_turnedInto_160 (lv_at hl 0 rfl) ?_
          refine jn_ (J := 175) (ls := ls) (v := .long (if (if (a0 - a0 / (2 : Int32) * (2 : Int32)) = 0 then (1 : Int32) else (0 : Int32)) = 0 then a1 else (q_Ref_withSign a1 (32 : Int32)))) (rest := []) (fun hj => ?_) ?_
          · refine lv_if_eq (tgt := 174) hx hb d_Ref_turnedInto_162 (by decide) (fun c_100 => ?_) (fun c_100 => ?_)
            · refine lv_lload_n hx hb d_Ref_turnedInto_174 rfl (lv_at hl 3 rfl) ?_
              exact (by rw [if_pos c_100] at hj; exact hj)
            · refine lv_lload_n hx hb d_Ref_turnedInto_165 rfl (lv_at hl 3 rfl) ?_
              refine lv_bipush (v := (32 : Int32)) hx hb d_Ref_turnedInto_166 (by decide) ?_
              refine hl_ (As := [.long a1, .int (32 : Int32)]) (rest := []) hq hA hS (c_Ref_withSign l A ad a1 (32 : Int32)) kB_Ref_withSign wt_600 ⟨rfl, rfl, Nat.le_of_ble_eq_true rfl, Nat.le_of_ble_eq_true rfl⟩ rfl hl.1 rfl (Nat.le_of_ble_eq_true rfl) d_Ref_turnedInto_168 ⟨Nat.zero_le _, Nat.zero_le _⟩ ?_
              refine lv_goto (tgt := 175) hx hb d_Ref_turnedInto_171 (by decide) ?_
              exact (by rw [if_neg c_100] at hj; exact hj)
          exact qr_l hq hr hk hP hS ⟨congrArg (fun z => some (Value.long z)) (by unfold q_Ref_turnedInto; exact (((if_neg c_2).trans ((if_neg c_95).trans ((if_pos c_98).trans ((if_pos c_99).trans rfl))))).symm), _, _, _, _, _, _, _, _, _, _, (by rw [show q_Ref_turnedInto_cd cd a0 a1 = cd from by unfold q_Ref_turnedInto_cd; exact ((if_neg c_2).trans ((if_neg c_95).trans ((if_pos c_98).trans ((if_pos c_99).trans rfl))))]; first | done | rfl), hre, hf, hI⟩ d_Ref_turnedInto_175
        by_cases c_101 : a0 = (173 : Int32)
        · refine lv_tableIn (tgt := 160) hx hb d_Ref_turnedInto_83 (by rw [c_101]; decide) (by rw [c_101]; decide) (by rw [c_101]; rfl) (by decide) ?_
          refine lv_iload hx hb d_Ref_turnedInto_160 (lv_at hl 0 rfl) ?_
          refine jn_ (J := 175) (ls := ls) (v := .long (if (if (a0 - a0 / (2 : Int32) * (2 : Int32)) = 0 then (1 : Int32) else (0 : Int32)) = 0 then a1 else (q_Ref_withSign a1 (32 : Int32)))) (rest := []) (fun hj => ?_) ?_
          · refine lv_if_eq (tgt := 174) hx hb d_Ref_turnedInto_162 (by decide) (fun c_102 => ?_) (fun c_102 => ?_)
            · refine lv_lload_n hx hb d_Ref_turnedInto_174 rfl (lv_at hl 3 rfl) ?_
              exact (by rw [if_pos c_102] at hj; exact hj)
            · refine lv_lload_n hx hb d_Ref_turnedInto_165 rfl (lv_at hl 3 rfl) ?_
              refine lv_bipush (v := (32 : Int32)) hx hb d_Ref_turnedInto_166 (by decide) ?_
              refine hl_ (As := [.long a1, .int (32 : Int32)]) (rest := []) hq hA hS (c_Ref_withSign l A ad a1 (32 : Int32)) kB_Ref_withSign wt_600 ⟨rfl, rfl, Nat.le_of_ble_eq_true rfl, Nat.le_of_ble_eq_true rfl⟩ rfl hl.1 rfl (Nat.le_of_ble_eq_true rfl) d_Ref_turnedInto_168 ⟨Nat.zero_le _, Nat.zero_le _⟩ ?_
              refine lv_goto (tgt := 175) hx hb d_Ref_turnedInto_171 (by decide) ?_
              exact (by rw [if_neg c_102] at hj; exact hj)
          exact qr_l hq hr hk hP hS ⟨congrArg (fun z => some (Value.long z)) (by unfold q_Ref_turnedInto; exact (((if_neg c_2).trans ((if_neg c_95).trans ((if_pos c_98).trans ((if_neg c_99).trans ((if_pos c_101).trans rfl)))))).symm), _, _, _, _, _, _, _, _, _, _, (by rw [show q_Ref_turnedInto_cd cd a0 a1 = cd from by unfold q_Ref_turnedInto_cd; exact ((if_neg c_2).trans ((if_neg c_95).trans ((if_pos c_98).trans ((if_neg c_99).trans ((if_pos c_101).trans rfl)))))]; first | done | rfl), hre, hf, hI⟩ d_Ref_turnedInto_175
        by_cases c_103 : a0 = (178 : Int32)
        · refine lv_tableIn (tgt := 176) hx hb d_Ref_turnedInto_83 (by rw [c_103]; decide) (by rw [c_103]; decide) (by rw [c_103]; rfl) (by decide) ?_
          refine lv_aload_n hx hb d_Ref_turnedInto_176 rfl (lv_at hl 1 rfl) ?_
          refine lv_bipush (v := (32 : Int32)) hx hb d_Ref_turnedInto_177 (by decide) ?_
          refine rv_v (As := [.int (32 : Int32)]) (rest := []) hq hA hP hS (c_Ref_format l A ad D cB cJ o r hne hA cd la lo hi re wi fr bi mi am we f (32 : Int32)) kB_Ref_format wt_558 ⟨rfl, rfl, Nat.le_of_ble_eq_true rfl, Nat.le_of_ble_eq_true rfl⟩ rfl hl.1 rfl (Nat.le_of_ble_eq_true rfl) d_Ref_turnedInto_179 ⟨Nat.zero_le _, Nat.zero_le _⟩ (fun H locs hP hS => ?_)
          refine lv_aload_n hx hb d_Ref_turnedInto_182 rfl (lv_at hl 1 rfl) ?_
          refine lv_iload hx hb d_Ref_turnedInto_183 (lv_at hl 0 rfl) ?_
          refine jn_ (J := 205) (ls := ls) (v := .long (if (if (a0 - a0 / (2 : Int32) * (2 : Int32)) = 0 then (1 : Int32) else (0 : Int32)) = 0 then a1 else (if (180 : Int32) ≤ a0 then a1 else (q_Ref_withSign a1 (32 : Int32))))) (rest := [.ref o]) (fun hj => ?_) ?_
          · refine lv_if_eq (tgt := 204) hx hb d_Ref_turnedInto_185 (by decide) (fun c_104 => ?_) (fun c_104 => ?_)
            · refine lv_lload_n hx hb d_Ref_turnedInto_204 rfl (lv_at hl 3 rfl) ?_
              exact (by rw [if_pos c_104] at hj; exact hj)
            · refine lv_iload_n hx hb d_Ref_turnedInto_188 rfl (lv_at hl 2 rfl) ?_
              refine lv_sipush (v := (180 : Int32)) hx hb d_Ref_turnedInto_189 (by decide) ?_
              refine jn_ (J := 205) (ls := ls) (v := .long (if (180 : Int32) ≤ a0 then a1 else (q_Ref_withSign a1 (32 : Int32)))) (rest := [.ref o]) (fun hj => ?_) ?_
              · refine lv_icmp_ge (tgt := 204) hx hb d_Ref_turnedInto_192 (by decide) (fun c_105 => ?_) (fun c_105 => ?_)
                · refine lv_lload_n hx hb d_Ref_turnedInto_204 rfl (lv_at hl 3 rfl) ?_
                  exact (by rw [if_pos c_105] at hj; exact hj)
                · refine lv_lload_n hx hb d_Ref_turnedInto_195 rfl (lv_at hl 3 rfl) ?_
                  refine lv_bipush (v := (32 : Int32)) hx hb d_Ref_turnedInto_196 (by decide) ?_
                  refine hl_ (As := [.long a1, .int (32 : Int32)]) (rest := [.ref o]) hq hA hS (c_Ref_withSign l A ad a1 (32 : Int32)) kB_Ref_withSign wt_600 ⟨rfl, rfl, Nat.le_of_ble_eq_true rfl, Nat.le_of_ble_eq_true rfl⟩ rfl hl.1 rfl (Nat.le_of_ble_eq_true rfl) d_Ref_turnedInto_198 ⟨Nat.zero_le _, Nat.zero_le _⟩ ?_
                  refine lv_goto (tgt := 205) hx hb d_Ref_turnedInto_201 (by decide) ?_
                  exact (by rw [if_neg c_105] at hj; exact hj)
              exact (by rw [if_neg c_104] at hj; exact hj)
          refine lv_iload hx hb d_Ref_turnedInto_205 (lv_at hl 0 rfl) ?_
          refine rq_ (As := [.long (if (if (a0 - a0 / (2 : Int32) * (2 : Int32)) = 0 then (1 : Int32) else (0 : Int32)) = 0 then a1 else (if (180 : Int32) ≤ a0 then a1 else (q_Ref_withSign a1 (32 : Int32)))), .int (if (a0 - a0 / (2 : Int32) * (2 : Int32)) = 0 then (1 : Int32) else (0 : Int32))]) (rest := []) hq hA hP hS (c_Ref_floating l A ad D cB cJ o r hne hA cd la lo hi re (q_Ref_format_wi (32 : Int32)) (q_Ref_format_fr (32 : Int32)) (q_Ref_format_bi (32 : Int32)) mi am we f N hf hI hre (if (if (a0 - a0 / (2 : Int32) * (2 : Int32)) = 0 then (1 : Int32) else (0 : Int32)) = 0 then a1 else (if (180 : Int32) ≤ a0 then a1 else (q_Ref_withSign a1 (32 : Int32)))) (if (a0 - a0 / (2 : Int32) * (2 : Int32)) = 0 then (1 : Int32) else (0 : Int32)) (fF (32 : Int32)) (fB (32 : Int32)) (fm_of (Or.inl rfl))) kB_Ref_floating wt_603 ⟨rfl, rfl, Nat.le_of_ble_eq_true rfl, Nat.le_of_ble_eq_true rfl⟩ rfl hl.1 rfl (Nat.le_of_ble_eq_true rfl) d_Ref_turnedInto_207 ⟨Nat.zero_le _, Nat.zero_le _⟩ (fun v9 fs9 f_106 H locs hk9 hP hS => ?_)
          obtain ⟨rfl, lo_106, hi_106, re_106, wi_106, fr_106, bi_106, mi_106, am_106, we_106, N_106, rfl, hre_106, hf_106, hI_106⟩ := hk9
          exact qr_l hq hr hk hP hS ⟨congrArg (fun z => some (Value.long z)) (by unfold q_Ref_turnedInto; exact (((if_neg c_2).trans ((if_neg c_95).trans ((if_pos c_98).trans ((if_neg c_99).trans ((if_neg c_101).trans ((if_pos c_103).trans rfl))))))).symm), _, _, _, _, _, _, _, _, _, _, (by rw [show q_Ref_turnedInto_cd cd a0 a1 = cd from by unfold q_Ref_turnedInto_cd; exact ((if_neg c_2).trans ((if_neg c_95).trans ((if_pos c_98).trans ((if_neg c_99).trans ((if_neg c_101).trans ((if_pos c_103).trans rfl))))))]; first | done | rfl), hre_106, hf_106, hI_106⟩ d_Ref_turnedInto_210
        by_cases c_107 : a0 = (179 : Int32)
        · refine lv_tableIn (tgt := 176) hx hb d_Ref_turnedInto_83 (by rw [c_107]; decide) (by rw [c_107]; decide) (by rw [c_107]; rfl) (by decide) ?_
          refine lv_aload_n hx hb d_Ref_turnedInto_176 rfl (lv_at hl 1 rfl) ?_
          refine lv_bipush (v := (32 : Int32)) hx hb d_Ref_turnedInto_177 (by decide) ?_
          refine rv_v (As := [.int (32 : Int32)]) (rest := []) hq hA hP hS (c_Ref_format l A ad D cB cJ o r hne hA cd la lo hi re wi fr bi mi am we f (32 : Int32)) kB_Ref_format wt_558 ⟨rfl, rfl, Nat.le_of_ble_eq_true rfl, Nat.le_of_ble_eq_true rfl⟩ rfl hl.1 rfl (Nat.le_of_ble_eq_true rfl) d_Ref_turnedInto_179 ⟨Nat.zero_le _, Nat.zero_le _⟩ (fun H locs hP hS => ?_)
          refine lv_aload_n hx hb d_Ref_turnedInto_182 rfl (lv_at hl 1 rfl) ?_
          refine lv_iload hx hb d_Ref_turnedInto_183 (lv_at hl 0 rfl) ?_
          refine jn_ (J := 205) (ls := ls) (v := .long (if (if (a0 - a0 / (2 : Int32) * (2 : Int32)) = 0 then (1 : Int32) else (0 : Int32)) = 0 then a1 else (if (180 : Int32) ≤ a0 then a1 else (q_Ref_withSign a1 (32 : Int32))))) (rest := [.ref o]) (fun hj => ?_) ?_
          · refine lv_if_eq (tgt := 204) hx hb d_Ref_turnedInto_185 (by decide) (fun c_108 => ?_) (fun c_108 => ?_)
            · refine lv_lload_n hx hb d_Ref_turnedInto_204 rfl (lv_at hl 3 rfl) ?_
              exact (by rw [if_pos c_108] at hj; exact hj)
            · refine lv_iload_n hx hb d_Ref_turnedInto_188 rfl (lv_at hl 2 rfl) ?_
              refine lv_sipush (v := (180 : Int32)) hx hb d_Ref_turnedInto_189 (by decide) ?_
              refine jn_ (J := 205) (ls := ls) (v := .long (if (180 : Int32) ≤ a0 then a1 else (q_Ref_withSign a1 (32 : Int32)))) (rest := [.ref o]) (fun hj => ?_) ?_
              · refine lv_icmp_ge (tgt := 204) hx hb d_Ref_turnedInto_192 (by decide) (fun c_109 => ?_) (fun c_109 => ?_)
                · refine lv_lload_n hx hb d_Ref_turnedInto_204 rfl (lv_at hl 3 rfl) ?_
                  exact (by rw [if_pos c_109] at hj; exact hj)
                · refine lv_lload_n hx hb d_Ref_turnedInto_195 rfl (lv_at hl 3 rfl) ?_
                  refine lv_bipush (v := (32 : Int32)) hx hb d_Ref_turnedInto_196 (by decide) ?_
                  refine hl_ (As := [.long a1, .int (32 : Int32)]) (rest := [.ref o]) hq hA hS (c_Ref_withSign l A ad a1 (32 : Int32)) kB_Ref_withSign wt_600 ⟨rfl, rfl, Nat.le_of_ble_eq_true rfl, Nat.le_of_ble_eq_true rfl⟩ rfl hl.1 rfl (Nat.le_of_ble_eq_true rfl) d_Ref_turnedInto_198 ⟨Nat.zero_le _, Nat.zero_le _⟩ ?_
                  refine lv_goto (tgt := 205) hx hb d_Ref_turnedInto_201 (by decide) ?_
                  exact (by rw [if_neg c_109] at hj; exact hj)
              exact (by rw [if_neg c_108] at hj; exact hj)
          refine lv_iload hx hb d_Ref_turnedInto_205 (lv_at hl 0 rfl) ?_
          refine rq_ (As := [.long (if (if (a0 - a0 / (2 : Int32) * (2 : Int32)) = 0 then (1 : Int32) else (0 : Int32)) = 0 then a1 else (if (180 : Int32) ≤ a0 then a1 else (q_Ref_withSign a1 (32 : Int32)))), .int (if (a0 - a0 / (2 : Int32) * (2 : Int32)) = 0 then (1 : Int32) else (0 : Int32))]) (rest := []) hq hA hP hS (c_Ref_floating l A ad D cB cJ o r hne hA cd la lo hi re (q_Ref_format_wi (32 : Int32)) (q_Ref_format_fr (32 : Int32)) (q_Ref_format_bi (32 : Int32)) mi am we f N hf hI hre (if (if (a0 - a0 / (2 : Int32) * (2 : Int32)) = 0 then (1 : Int32) else (0 : Int32)) = 0 then a1 else (if (180 : Int32) ≤ a0 then a1 else (q_Ref_withSign a1 (32 : Int32)))) (if (a0 - a0 / (2 : Int32) * (2 : Int32)) = 0 then (1 : Int32) else (0 : Int32)) (fF (32 : Int32)) (fB (32 : Int32)) (fm_of (Or.inl rfl))) kB_Ref_floating wt_603 ⟨rfl, rfl, Nat.le_of_ble_eq_true rfl, Nat.le_of_ble_eq_true rfl⟩ rfl hl.1 rfl (Nat.le_of_ble_eq_true rfl) d_Ref_turnedInto_207 ⟨Nat.zero_le _, Nat.zero_le _⟩ (fun v9 fs9 f_110 H locs hk9 hP hS => ?_)
          obtain ⟨rfl, lo_110, hi_110, re_110, wi_110, fr_110, bi_110, mi_110, am_110, we_110, N_110, rfl, hre_110, hf_110, hI_110⟩ := hk9
          exact qr_l hq hr hk hP hS ⟨congrArg (fun z => some (Value.long z)) (by unfold q_Ref_turnedInto; exact (((if_neg c_2).trans ((if_neg c_95).trans ((if_pos c_98).trans ((if_neg c_99).trans ((if_neg c_101).trans ((if_neg c_103).trans ((if_pos c_107).trans rfl)))))))).symm), _, _, _, _, _, _, _, _, _, _, (by rw [show q_Ref_turnedInto_cd cd a0 a1 = cd from by unfold q_Ref_turnedInto_cd; exact ((if_neg c_2).trans ((if_neg c_95).trans ((if_pos c_98).trans ((if_neg c_99).trans ((if_neg c_101).trans ((if_neg c_103).trans ((if_pos c_107).trans rfl)))))))]; first | done | rfl), hre_110, hf_110, hI_110⟩ d_Ref_turnedInto_210
        by_cases c_111 : a0 = (180 : Int32)
        · refine lv_tableIn (tgt := 176) hx hb d_Ref_turnedInto_83 (by rw [c_111]; decide) (by rw [c_111]; decide) (by rw [c_111]; rfl) (by decide) ?_
          refine lv_aload_n hx hb d_Ref_turnedInto_176 rfl (lv_at hl 1 rfl) ?_
          refine lv_bipush (v := (32 : Int32)) hx hb d_Ref_turnedInto_177 (by decide) ?_
          refine rv_v (As := [.int (32 : Int32)]) (rest := []) hq hA hP hS (c_Ref_format l A ad D cB cJ o r hne hA cd la lo hi re wi fr bi mi am we f (32 : Int32)) kB_Ref_format wt_558 ⟨rfl, rfl, Nat.le_of_ble_eq_true rfl, Nat.le_of_ble_eq_true rfl⟩ rfl hl.1 rfl (Nat.le_of_ble_eq_true rfl) d_Ref_turnedInto_179 ⟨Nat.zero_le _, Nat.zero_le _⟩ (fun H locs hP hS => ?_)
          refine lv_aload_n hx hb d_Ref_turnedInto_182 rfl (lv_at hl 1 rfl) ?_
          refine lv_iload hx hb d_Ref_turnedInto_183 (lv_at hl 0 rfl) ?_
          refine jn_ (J := 205) (ls := ls) (v := .long (if (if (a0 - a0 / (2 : Int32) * (2 : Int32)) = 0 then (1 : Int32) else (0 : Int32)) = 0 then a1 else (if (180 : Int32) ≤ a0 then a1 else (q_Ref_withSign a1 (32 : Int32))))) (rest := [.ref o]) (fun hj => ?_) ?_
          · refine lv_if_eq (tgt := 204) hx hb d_Ref_turnedInto_185 (by decide) (fun c_112 => ?_) (fun c_112 => ?_)
            · refine lv_lload_n hx hb d_Ref_turnedInto_204 rfl (lv_at hl 3 rfl) ?_
              exact (by rw [if_pos c_112] at hj; exact hj)
            · refine lv_iload_n hx hb d_Ref_turnedInto_188 rfl (lv_at hl 2 rfl) ?_
              refine lv_sipush (v := (180 : Int32)) hx hb d_Ref_turnedInto_189 (by decide) ?_
              refine jn_ (J := 205) (ls := ls) (v := .long (if (180 : Int32) ≤ a0 then a1 else (q_Ref_withSign a1 (32 : Int32)))) (rest := [.ref o]) (fun hj => ?_) ?_
              · refine lv_icmp_ge (tgt := 204) hx hb d_Ref_turnedInto_192 (by decide) (fun c_113 => ?_) (fun c_113 => ?_)
                · refine lv_lload_n hx hb d_Ref_turnedInto_204 rfl (lv_at hl 3 rfl) ?_
                  exact (by rw [if_pos c_113] at hj; exact hj)
                · refine lv_lload_n hx hb d_Ref_turnedInto_195 rfl (lv_at hl 3 rfl) ?_
                  refine lv_bipush (v := (32 : Int32)) hx hb d_Ref_turnedInto_196 (by decide) ?_
                  refine hl_ (As := [.long a1, .int (32 : Int32)]) (rest := [.ref o]) hq hA hS (c_Ref_withSign l A ad a1 (32 : Int32)) kB_Ref_withSign wt_600 ⟨rfl, rfl, Nat.le_of_ble_eq_true rfl, Nat.le_of_ble_eq_true rfl⟩ rfl hl.1 rfl (Nat.le_of_ble_eq_true rfl) d_Ref_turnedInto_198 ⟨Nat.zero_le _, Nat.zero_le _⟩ ?_
                  refine lv_goto (tgt := 205) hx hb d_Ref_turnedInto_201 (by decide) ?_
                  exact (by rw [if_neg c_113] at hj; exact hj)
              exact (by rw [if_neg c_112] at hj; exact hj)
          refine lv_iload hx hb d_Ref_turnedInto_205 (lv_at hl 0 rfl) ?_
          refine rq_ (As := [.long (if (if (a0 - a0 / (2 : Int32) * (2 : Int32)) = 0 then (1 : Int32) else (0 : Int32)) = 0 then a1 else (if (180 : Int32) ≤ a0 then a1 else (q_Ref_withSign a1 (32 : Int32)))), .int (if (a0 - a0 / (2 : Int32) * (2 : Int32)) = 0 then (1 : Int32) else (0 : Int32))]) (rest := []) hq hA hP hS (c_Ref_floating l A ad D cB cJ o r hne hA cd la lo hi re (q_Ref_format_wi (32 : Int32)) (q_Ref_format_fr (32 : Int32)) (q_Ref_format_bi (32 : Int32)) mi am we f N hf hI hre (if (if (a0 - a0 / (2 : Int32) * (2 : Int32)) = 0 then (1 : Int32) else (0 : Int32)) = 0 then a1 else (if (180 : Int32) ≤ a0 then a1 else (q_Ref_withSign a1 (32 : Int32)))) (if (a0 - a0 / (2 : Int32) * (2 : Int32)) = 0 then (1 : Int32) else (0 : Int32)) (fF (32 : Int32)) (fB (32 : Int32)) (fm_of (Or.inl rfl))) kB_Ref_floating wt_603 ⟨rfl, rfl, Nat.le_of_ble_eq_true rfl, Nat.le_of_ble_eq_true rfl⟩ rfl hl.1 rfl (Nat.le_of_ble_eq_true rfl) d_Ref_turnedInto_207 ⟨Nat.zero_le _, Nat.zero_le _⟩ (fun v9 fs9 f_114 H locs hk9 hP hS => ?_)
          obtain ⟨rfl, lo_114, hi_114, re_114, wi_114, fr_114, bi_114, mi_114, am_114, we_114, N_114, rfl, hre_114, hf_114, hI_114⟩ := hk9
          exact qr_l hq hr hk hP hS ⟨congrArg (fun z => some (Value.long z)) (by unfold q_Ref_turnedInto; exact (((if_neg c_2).trans ((if_neg c_95).trans ((if_pos c_98).trans ((if_neg c_99).trans ((if_neg c_101).trans ((if_neg c_103).trans ((if_neg c_107).trans ((if_pos c_111).trans rfl))))))))).symm), _, _, _, _, _, _, _, _, _, _, (by rw [show q_Ref_turnedInto_cd cd a0 a1 = cd from by unfold q_Ref_turnedInto_cd; exact ((if_neg c_2).trans ((if_neg c_95).trans ((if_pos c_98).trans ((if_neg c_99).trans ((if_neg c_101).trans ((if_neg c_103).trans ((if_neg c_107).trans ((if_pos c_111).trans rfl))))))))]; first | done | rfl), hre_114, hf_114, hI_114⟩ d_Ref_turnedInto_210
        by_cases c_115 : a0 = (181 : Int32)
        · refine lv_tableIn (tgt := 176) hx hb d_Ref_turnedInto_83 (by rw [c_115]; decide) (by rw [c_115]; decide) (by rw [c_115]; rfl) (by decide) ?_
          refine lv_aload_n hx hb d_Ref_turnedInto_176 rfl (lv_at hl 1 rfl) ?_
          refine lv_bipush (v := (32 : Int32)) hx hb d_Ref_turnedInto_177 (by decide) ?_
          refine rv_v (As := [.int (32 : Int32)]) (rest := []) hq hA hP hS (c_Ref_format l A ad D cB cJ o r hne hA cd la lo hi re wi fr bi mi am we f (32 : Int32)) kB_Ref_format wt_558 ⟨rfl, rfl, Nat.le_of_ble_eq_true rfl, Nat.le_of_ble_eq_true rfl⟩ rfl hl.1 rfl (Nat.le_of_ble_eq_true rfl) d_Ref_turnedInto_179 ⟨Nat.zero_le _, Nat.zero_le _⟩ (fun H locs hP hS => ?_)
          refine lv_aload_n hx hb d_Ref_turnedInto_182 rfl (lv_at hl 1 rfl) ?_
          refine lv_iload hx hb d_Ref_turnedInto_183 (lv_at hl 0 rfl) ?_
          refine jn_ (J := 205) (ls := ls) (v := .long (if (if (a0 - a0 / (2 : Int32) * (2 : Int32)) = 0 then (1 : Int32) else (0 : Int32)) = 0 then a1 else (if (180 : Int32) ≤ a0 then a1 else (q_Ref_withSign a1 (32 : Int32))))) (rest := [.ref o]) (fun hj => ?_) ?_
          · refine lv_if_eq (tgt := 204) hx hb d_Ref_turnedInto_185 (by decide) (fun c_116 => ?_) (fun c_116 => ?_)
            · refine lv_lload_n hx hb d_Ref_turnedInto_204 rfl (lv_at hl 3 rfl) ?_
              exact (by rw [if_pos c_116] at hj; exact hj)
            · refine lv_iload_n hx hb d_Ref_turnedInto_188 rfl (lv_at hl 2 rfl) ?_
              refine lv_sipush (v := (180 : Int32)) hx hb d_Ref_turnedInto_189 (by decide) ?_
              refine jn_ (J := 205) (ls := ls) (v := .long (if (180 : Int32) ≤ a0 then a1 else (q_Ref_withSign a1 (32 : Int32)))) (rest := [.ref o]) (fun hj => ?_) ?_
              · refine lv_icmp_ge (tgt := 204) hx hb d_Ref_turnedInto_192 (by decide) (fun c_117 => ?_) (fun c_117 => ?_)
                · refine lv_lload_n hx hb d_Ref_turnedInto_204 rfl (lv_at hl 3 rfl) ?_
                  exact (by rw [if_pos c_117] at hj; exact hj)
                · refine lv_lload_n hx hb d_Ref_turnedInto_195 rfl (lv_at hl 3 rfl) ?_
                  refine lv_bipush (v := (32 : Int32)) hx hb d_Ref_turnedInto_196 (by decide) ?_
                  refine hl_ (As := [.long a1, .int (32 : Int32)]) (rest := [.ref o]) hq hA hS (c_Ref_withSign l A ad a1 (32 : Int32)) kB_Ref_withSign wt_600 ⟨rfl, rfl, Nat.le_of_ble_eq_true rfl, Nat.le_of_ble_eq_true rfl⟩ rfl hl.1 rfl (Nat.le_of_ble_eq_true rfl) d_Ref_turnedInto_198 ⟨Nat.zero_le _, Nat.zero_le _⟩ ?_
                  refine lv_goto (tgt := 205) hx hb d_Ref_turnedInto_201 (by decide) ?_
                  exact (by rw [if_neg c_117] at hj; exact hj)
              exact (by rw [if_neg c_116] at hj; exact hj)
          refine lv_iload hx hb d_Ref_turnedInto_205 (lv_at hl 0 rfl) ?_
          refine rq_ (As := [.long (if (if (a0 - a0 / (2 : Int32) * (2 : Int32)) = 0 then (1 : Int32) else (0 : Int32)) = 0 then a1 else (if (180 : Int32) ≤ a0 then a1 else (q_Ref_withSign a1 (32 : Int32)))), .int (if (a0 - a0 / (2 : Int32) * (2 : Int32)) = 0 then (1 : Int32) else (0 : Int32))]) (rest := []) hq hA hP hS (c_Ref_floating l A ad D cB cJ o r hne hA cd la lo hi re (q_Ref_format_wi (32 : Int32)) (q_Ref_format_fr (32 : Int32)) (q_Ref_format_bi (32 : Int32)) mi am we f N hf hI hre (if (if (a0 - a0 / (2 : Int32) * (2 : Int32)) = 0 then (1 : Int32) else (0 : Int32)) = 0 then a1 else (if (180 : Int32) ≤ a0 then a1 else (q_Ref_withSign a1 (32 : Int32)))) (if (a0 - a0 / (2 : Int32) * (2 : Int32)) = 0 then (1 : Int32) else (0 : Int32)) (fF (32 : Int32)) (fB (32 : Int32)) (fm_of (Or.inl rfl))) kB_Ref_floating wt_603 ⟨rfl, rfl, Nat.le_of_ble_eq_true rfl, Nat.le_of_ble_eq_true rfl⟩ rfl hl.1 rfl (Nat.le_of_ble_eq_true rfl) d_Ref_turnedInto_207 ⟨Nat.zero_le _, Nat.zero_le _⟩ (fun v9 fs9 f_118 H locs hk9 hP hS => ?_)
          obtain ⟨rfl, lo_118, hi_118, re_118, wi_118, fr_118, bi_118, mi_118, am_118, we_118, N_118, rfl, hre_118, hf_118, hI_118⟩ := hk9
          exact qr_l hq hr hk hP hS ⟨congrArg (fun z => some (Value.long z)) (by unfold q_Ref_turnedInto; exact (((if_neg c_2).trans ((if_neg c_95).trans ((if_pos c_98).trans ((if_neg c_99).trans ((if_neg c_101).trans ((if_neg c_103).trans ((if_neg c_107).trans ((if_neg c_111).trans ((if_pos c_115).trans rfl)))))))))).symm), _, _, _, _, _, _, _, _, _, _, (by rw [show q_Ref_turnedInto_cd cd a0 a1 = cd from by unfold q_Ref_turnedInto_cd; exact ((if_neg c_2).trans ((if_neg c_95).trans ((if_pos c_98).trans ((if_neg c_99).trans ((if_neg c_101).trans ((if_neg c_103).trans ((if_neg c_107).trans ((if_neg c_111).trans ((if_pos c_115).trans rfl)))))))))]; first | done | rfl), hre_118, hf_118, hI_118⟩ d_Ref_turnedInto_210
        by_cases c_119 : a0 = (182 : Int32)
        · refine lv_tableIn (tgt := 249) hx hb d_Ref_turnedInto_83 (by rw [c_119]; decide) (by rw [c_119]; decide) (by rw [c_119]; rfl) (by decide) ?_
          refine lv_aload_n hx hb d_Ref_turnedInto_249 rfl (lv_at hl 1 rfl) ?_
          refine lv_iload_n hx hb d_Ref_turnedInto_250 rfl (lv_at hl 2 rfl) ?_
          refine lv_sipush (v := (182 : Int32)) hx hb d_Ref_turnedInto_251 (by decide) ?_
          refine jn_ (J := 264) (ls := ls) (v := .int (if a0 = (182 : Int32) then (64 : Int32) else (32 : Int32))) (rest := [.ref o]) (fun hj => ?_) ?_
          · refine lv_icmp_ne (tgt := 262) hx hb d_Ref_turnedInto_254 (by decide) (fun c_120 => ?_) (fun c_120 => ?_)
            · refine lv_bipush (v := (32 : Int32)) hx hb d_Ref_turnedInto_262 (by decide) ?_
              exact (by rw [if_neg c_120] at hj; exact hj)
            · refine lv_bipush (v := (64 : Int32)) hx hb d_Ref_turnedInto_257 (by decide) ?_
              refine lv_goto (tgt := 264) hx hb d_Ref_turnedInto_259 (by decide) ?_
              exact (by rw [if_pos c_120] at hj; exact hj)
          refine rv_v (As := [.int (if a0 = (182 : Int32) then (64 : Int32) else (32 : Int32))]) (rest := []) hq hA hP hS (c_Ref_format l A ad D cB cJ o r hne hA cd la lo hi re wi fr bi mi am we f (if a0 = (182 : Int32) then (64 : Int32) else (32 : Int32))) kB_Ref_format wt_558 ⟨rfl, rfl, Nat.le_of_ble_eq_true rfl, Nat.le_of_ble_eq_true rfl⟩ rfl hl.1 rfl (Nat.le_of_ble_eq_true rfl) d_Ref_turnedInto_264 ⟨Nat.zero_le _, Nat.zero_le _⟩ (fun H locs hP hS => ?_)
          refine lv_aload_n hx hb d_Ref_turnedInto_267 rfl (lv_at hl 1 rfl) ?_
          refine lv_lload_n hx hb d_Ref_turnedInto_268 rfl (lv_at hl 3 rfl) ?_
          refine lv_iload_n hx hb d_Ref_turnedInto_269 rfl (lv_at hl 2 rfl) ?_
          refine lv_sipush (v := (182 : Int32)) hx hb d_Ref_turnedInto_270 (by decide) ?_
          refine jn_ (J := 283) (ls := ls) (v := .int (if a0 = (182 : Int32) then (32 : Int32) else (64 : Int32))) (rest := [.long a1, .ref o]) (fun hj => ?_) ?_
          · refine lv_icmp_ne (tgt := 281) hx hb d_Ref_turnedInto_273 (by decide) (fun c_121 => ?_) (fun c_121 => ?_)
            · refine lv_bipush (v := (64 : Int32)) hx hb d_Ref_turnedInto_281 (by decide) ?_
              exact (by rw [if_neg c_121] at hj; exact hj)
            · refine lv_bipush (v := (32 : Int32)) hx hb d_Ref_turnedInto_276 (by decide) ?_
              refine lv_goto (tgt := 283) hx hb d_Ref_turnedInto_278 (by decide) ?_
              exact (by rw [if_pos c_121] at hj; exact hj)
          refine rq_ (As := [.long a1, .int (if a0 = (182 : Int32) then (32 : Int32) else (64 : Int32))]) (rest := []) hq hA hP hS (c_Ref_reformed l A ad D cB cJ o r hne hA cd la lo hi re (q_Ref_format_wi (if a0 = (182 : Int32) then (64 : Int32) else (32 : Int32))) (q_Ref_format_fr (if a0 = (182 : Int32) then (64 : Int32) else (32 : Int32))) (q_Ref_format_bi (if a0 = (182 : Int32) then (64 : Int32) else (32 : Int32))) mi am we f N hf hI hre a1 (if a0 = (182 : Int32) then (32 : Int32) else (64 : Int32)) (fF (if a0 = (182 : Int32) then (64 : Int32) else (32 : Int32))) (fB (if a0 = (182 : Int32) then (64 : Int32) else (32 : Int32))) (fm_of (by (repeat' split) <;> first | exact Or.inl rfl | exact Or.inr rfl)) (fF (if a0 = (182 : Int32) then (32 : Int32) else (64 : Int32))) (fB (if a0 = (182 : Int32) then (32 : Int32) else (64 : Int32))) (fm_of (by (repeat' split) <;> first | exact Or.inl rfl | exact Or.inr rfl))) kB_Ref_reformed wt_631 ⟨rfl, rfl, Nat.le_of_ble_eq_true rfl, Nat.le_of_ble_eq_true rfl⟩ rfl hl.1 rfl (Nat.le_of_ble_eq_true rfl) d_Ref_turnedInto_283 ⟨Nat.zero_le _, Nat.zero_le _⟩ (fun v9 fs9 f_122 H locs hk9 hP hS => ?_)
          obtain ⟨rfl, lo_122, hi_122, re_122, wi_122, fr_122, bi_122, mi_122, am_122, we_122, N_122, rfl, hre_122, hf_122, hI_122⟩ := hk9
          exact qr_l hq hr hk hP hS ⟨congrArg (fun z => some (Value.long z)) (by unfold q_Ref_turnedInto; exact (((if_neg c_2).trans ((if_neg c_95).trans ((if_pos c_98).trans ((if_neg c_99).trans ((if_neg c_101).trans ((if_neg c_103).trans ((if_neg c_107).trans ((if_neg c_111).trans ((if_neg c_115).trans ((if_pos c_119).trans rfl))))))))))).symm), _, _, _, _, _, _, _, _, _, _, (by rw [show q_Ref_turnedInto_cd cd a0 a1 = cd from by unfold q_Ref_turnedInto_cd; exact ((if_neg c_2).trans ((if_neg c_95).trans ((if_pos c_98).trans ((if_neg c_99).trans ((if_neg c_101).trans ((if_neg c_103).trans ((if_neg c_107).trans ((if_neg c_111).trans ((if_neg c_115).trans ((if_pos c_119).trans rfl))))))))))]; first | done | rfl), hre_122, hf_122, hI_122⟩ d_Ref_turnedInto_286
        by_cases c_123 : a0 = (183 : Int32)
        · refine lv_tableIn (tgt := 211) hx hb d_Ref_turnedInto_83 (by rw [c_123]; decide) (by rw [c_123]; decide) (by rw [c_123]; rfl) (by decide) ?_
          refine lv_aload_n hx hb d_Ref_turnedInto_211 rfl (lv_at hl 1 rfl) ?_
          refine lv_bipush (v := (64 : Int32)) hx hb d_Ref_turnedInto_212 (by decide) ?_
          refine rv_v (As := [.int (64 : Int32)]) (rest := []) hq hA hP hS (c_Ref_format l A ad D cB cJ o r hne hA cd la lo hi re wi fr bi mi am we f (64 : Int32)) kB_Ref_format wt_558 ⟨rfl, rfl, Nat.le_of_ble_eq_true rfl, Nat.le_of_ble_eq_true rfl⟩ rfl hl.1 rfl (Nat.le_of_ble_eq_true rfl) d_Ref_turnedInto_214 ⟨Nat.zero_le _, Nat.zero_le _⟩ (fun H locs hP hS => ?_)
          refine lv_aload_n hx hb d_Ref_turnedInto_217 rfl (lv_at hl 1 rfl) ?_
          refine lv_iload_n hx hb d_Ref_turnedInto_218 rfl (lv_at hl 2 rfl) ?_
          refine lv_sipush (v := (183 : Int32)) hx hb d_Ref_turnedInto_219 (by decide) ?_
          refine jn_ (J := 235) (ls := ls) (v := .long (if a0 = (183 : Int32) then (q_Ref_withSign a1 (32 : Int32)) else a1)) (rest := [.ref o]) (fun hj => ?_) ?_
          · refine lv_icmp_ne (tgt := 234) hx hb d_Ref_turnedInto_222 (by decide) (fun c_124 => ?_) (fun c_124 => ?_)
            · refine lv_lload_n hx hb d_Ref_turnedInto_234 rfl (lv_at hl 3 rfl) ?_
              exact (by rw [if_neg c_124] at hj; exact hj)
            · refine lv_lload_n hx hb d_Ref_turnedInto_225 rfl (lv_at hl 3 rfl) ?_
              refine lv_bipush (v := (32 : Int32)) hx hb d_Ref_turnedInto_226 (by decide) ?_
              refine hl_ (As := [.long a1, .int (32 : Int32)]) (rest := [.ref o]) hq hA hS (c_Ref_withSign l A ad a1 (32 : Int32)) kB_Ref_withSign wt_600 ⟨rfl, rfl, Nat.le_of_ble_eq_true rfl, Nat.le_of_ble_eq_true rfl⟩ rfl hl.1 rfl (Nat.le_of_ble_eq_true rfl) d_Ref_turnedInto_228 ⟨Nat.zero_le _, Nat.zero_le _⟩ ?_
              refine lv_goto (tgt := 235) hx hb d_Ref_turnedInto_231 (by decide) ?_
              exact (by rw [if_pos c_124] at hj; exact hj)
          refine lv_iload hx hb d_Ref_turnedInto_235 (lv_at hl 0 rfl) ?_
          refine jn_ (J := 245) (ls := ls) (v := .int (if (if (a0 - a0 / (2 : Int32) * (2 : Int32)) = 0 then (1 : Int32) else (0 : Int32)) = 0 then (1 : Int32) else (0 : Int32))) (rest := [.long (if a0 = (183 : Int32) then (q_Ref_withSign a1 (32 : Int32)) else a1), .ref o]) (fun hj => ?_) ?_
          · refine lv_if_ne (tgt := 244) hx hb d_Ref_turnedInto_237 (by decide) (fun c_125 => ?_) (fun c_125 => ?_)
            · refine lv_iconst (v := (0 : Int32)) hx hb d_Ref_turnedInto_244 (by decide) ?_
              exact (by rw [if_neg c_125] at hj; exact hj)
            · refine lv_iconst (v := (1 : Int32)) hx hb d_Ref_turnedInto_240 (by decide) ?_
              refine lv_goto (tgt := 245) hx hb d_Ref_turnedInto_241 (by decide) ?_
              exact (by rw [if_pos c_125] at hj; exact hj)
          refine rq_ (As := [.long (if a0 = (183 : Int32) then (q_Ref_withSign a1 (32 : Int32)) else a1), .int (if (if (a0 - a0 / (2 : Int32) * (2 : Int32)) = 0 then (1 : Int32) else (0 : Int32)) = 0 then (1 : Int32) else (0 : Int32))]) (rest := []) hq hA hP hS (c_Ref_floating l A ad D cB cJ o r hne hA cd la lo hi re (q_Ref_format_wi (64 : Int32)) (q_Ref_format_fr (64 : Int32)) (q_Ref_format_bi (64 : Int32)) mi am we f N hf hI hre (if a0 = (183 : Int32) then (q_Ref_withSign a1 (32 : Int32)) else a1) (if (if (a0 - a0 / (2 : Int32) * (2 : Int32)) = 0 then (1 : Int32) else (0 : Int32)) = 0 then (1 : Int32) else (0 : Int32)) (fF (64 : Int32)) (fB (64 : Int32)) (fm_of (Or.inr rfl))) kB_Ref_floating wt_603 ⟨rfl, rfl, Nat.le_of_ble_eq_true rfl, Nat.le_of_ble_eq_true rfl⟩ rfl hl.1 rfl (Nat.le_of_ble_eq_true rfl) d_Ref_turnedInto_245 ⟨Nat.zero_le _, Nat.zero_le _⟩ (fun v9 fs9 f_126 H locs hk9 hP hS => ?_)
          obtain ⟨rfl, lo_126, hi_126, re_126, wi_126, fr_126, bi_126, mi_126, am_126, we_126, N_126, rfl, hre_126, hf_126, hI_126⟩ := hk9
          exact qr_l hq hr hk hP hS ⟨congrArg (fun z => some (Value.long z)) (by unfold q_Ref_turnedInto; exact (((if_neg c_2).trans ((if_neg c_95).trans ((if_pos c_98).trans ((if_neg c_99).trans ((if_neg c_101).trans ((if_neg c_103).trans ((if_neg c_107).trans ((if_neg c_111).trans ((if_neg c_115).trans ((if_neg c_119).trans ((if_pos c_123).trans rfl)))))))))))).symm), _, _, _, _, _, _, _, _, _, _, (by rw [show q_Ref_turnedInto_cd cd a0 a1 = cd from by unfold q_Ref_turnedInto_cd; exact ((if_neg c_2).trans ((if_neg c_95).trans ((if_pos c_98).trans ((if_neg c_99).trans ((if_neg c_101).trans ((if_neg c_103).trans ((if_neg c_107).trans ((if_neg c_111).trans ((if_neg c_115).trans ((if_neg c_119).trans ((if_pos c_123).trans rfl)))))))))))]; first | done | rfl), hre_126, hf_126, hI_126⟩ d_Ref_turnedInto_248
        by_cases c_127 : a0 = (184 : Int32)
        · refine lv_tableIn (tgt := 211) hx hb d_Ref_turnedInto_83 (by rw [c_127]; decide) (by rw [c_127]; decide) (by rw [c_127]; rfl) (by decide) ?_
          refine lv_aload_n hx hb d_Ref_turnedInto_211 rfl (lv_at hl 1 rfl) ?_
          refine lv_bipush (v := (64 : Int32)) hx hb d_Ref_turnedInto_212 (by decide) ?_
          refine rv_v (As := [.int (64 : Int32)]) (rest := []) hq hA hP hS (c_Ref_format l A ad D cB cJ o r hne hA cd la lo hi re wi fr bi mi am we f (64 : Int32)) kB_Ref_format wt_558 ⟨rfl, rfl, Nat.le_of_ble_eq_true rfl, Nat.le_of_ble_eq_true rfl⟩ rfl hl.1 rfl (Nat.le_of_ble_eq_true rfl) d_Ref_turnedInto_214 ⟨Nat.zero_le _, Nat.zero_le _⟩ (fun H locs hP hS => ?_)
          refine lv_aload_n hx hb d_Ref_turnedInto_217 rfl (lv_at hl 1 rfl) ?_
          refine lv_iload_n hx hb d_Ref_turnedInto_218 rfl (lv_at hl 2 rfl) ?_
          refine lv_sipush (v := (183 : Int32)) hx hb d_Ref_turnedInto_219 (by decide) ?_
          refine jn_ (J := 235) (ls := ls) (v := .long (if a0 = (183 : Int32) then (q_Ref_withSign a1 (32 : Int32)) else a1)) (rest := [.ref o]) (fun hj => ?_) ?_
          · refine lv_icmp_ne (tgt := 234) hx hb d_Ref_turnedInto_222 (by decide) (fun c_128 => ?_) (fun c_128 => ?_)
            · refine lv_lload_n hx hb d_Ref_turnedInto_234 rfl (lv_at hl 3 rfl) ?_
              exact (by rw [if_neg c_128] at hj; exact hj)
            · refine lv_lload_n hx hb d_Ref_turnedInto_225 rfl (lv_at hl 3 rfl) ?_
              refine lv_bipush (v := (32 : Int32)) hx hb d_Ref_turnedInto_226 (by decide) ?_
              refine hl_ (As := [.long a1, .int (32 : Int32)]) (rest := [.ref o]) hq hA hS (c_Ref_withSign l A ad a1 (32 : Int32)) kB_Ref_withSign wt_600 ⟨rfl, rfl, Nat.le_of_ble_eq_true rfl, Nat.le_of_ble_eq_true rfl⟩ rfl hl.1 rfl (Nat.le_of_ble_eq_true rfl) d_Ref_turnedInto_228 ⟨Nat.zero_le _, Nat.zero_le _⟩ ?_
              refine lv_goto (tgt := 235) hx hb d_Ref_turnedInto_231 (by decide) ?_
              exact (by rw [if_pos c_128] at hj; exact hj)
          refine lv_iload hx hb d_Ref_turnedInto_235 (lv_at hl 0 rfl) ?_
          refine jn_ (J := 245) (ls := ls) (v := .int (if (if (a0 - a0 / (2 : Int32) * (2 : Int32)) = 0 then (1 : Int32) else (0 : Int32)) = 0 then (1 : Int32) else (0 : Int32))) (rest := [.long (if a0 = (183 : Int32) then (q_Ref_withSign a1 (32 : Int32)) else a1), .ref o]) (fun hj => ?_) ?_
          · refine lv_if_ne (tgt := 244) hx hb d_Ref_turnedInto_237 (by decide) (fun c_129 => ?_) (fun c_129 => ?_)
            · refine lv_iconst (v := (0 : Int32)) hx hb d_Ref_turnedInto_244 (by decide) ?_
              exact (by rw [if_neg c_129] at hj; exact hj)
            · refine lv_iconst (v := (1 : Int32)) hx hb d_Ref_turnedInto_240 (by decide) ?_
              refine lv_goto (tgt := 245) hx hb d_Ref_turnedInto_241 (by decide) ?_
              exact (by rw [if_pos c_129] at hj; exact hj)
          refine rq_ (As := [.long (if a0 = (183 : Int32) then (q_Ref_withSign a1 (32 : Int32)) else a1), .int (if (if (a0 - a0 / (2 : Int32) * (2 : Int32)) = 0 then (1 : Int32) else (0 : Int32)) = 0 then (1 : Int32) else (0 : Int32))]) (rest := []) hq hA hP hS (c_Ref_floating l A ad D cB cJ o r hne hA cd la lo hi re (q_Ref_format_wi (64 : Int32)) (q_Ref_format_fr (64 : Int32)) (q_Ref_format_bi (64 : Int32)) mi am we f N hf hI hre (if a0 = (183 : Int32) then (q_Ref_withSign a1 (32 : Int32)) else a1) (if (if (a0 - a0 / (2 : Int32) * (2 : Int32)) = 0 then (1 : Int32) else (0 : Int32)) = 0 then (1 : Int32) else (0 : Int32)) (fF (64 : Int32)) (fB (64 : Int32)) (fm_of (Or.inr rfl))) kB_Ref_floating wt_603 ⟨rfl, rfl, Nat.le_of_ble_eq_true rfl, Nat.le_of_ble_eq_true rfl⟩ rfl hl.1 rfl (Nat.le_of_ble_eq_true rfl) d_Ref_turnedInto_245 ⟨Nat.zero_le _, Nat.zero_le _⟩ (fun v9 fs9 f_130 H locs hk9 hP hS => ?_)
          obtain ⟨rfl, lo_130, hi_130, re_130, wi_130, fr_130, bi_130, mi_130, am_130, we_130, N_130, rfl, hre_130, hf_130, hI_130⟩ := hk9
          exact qr_l hq hr hk hP hS ⟨congrArg (fun z => some (Value.long z)) (by unfold q_Ref_turnedInto; exact (((if_neg c_2).trans ((if_neg c_95).trans ((if_pos c_98).trans ((if_neg c_99).trans ((if_neg c_101).trans ((if_neg c_103).trans ((if_neg c_107).trans ((if_neg c_111).trans ((if_neg c_115).trans ((if_neg c_119).trans ((if_neg c_123).trans ((if_pos c_127).trans rfl))))))))))))).symm), _, _, _, _, _, _, _, _, _, _, (by rw [show q_Ref_turnedInto_cd cd a0 a1 = cd from by unfold q_Ref_turnedInto_cd; exact ((if_neg c_2).trans ((if_neg c_95).trans ((if_pos c_98).trans ((if_neg c_99).trans ((if_neg c_101).trans ((if_neg c_103).trans ((if_neg c_107).trans ((if_neg c_111).trans ((if_neg c_115).trans ((if_neg c_119).trans ((if_neg c_123).trans ((if_pos c_127).trans rfl))))))))))))]; first | done | rfl), hre_130, hf_130, hI_130⟩ d_Ref_turnedInto_248
        by_cases c_131 : a0 = (185 : Int32)
        · refine lv_tableIn (tgt := 211) hx hb d_Ref_turnedInto_83 (by rw [c_131]; decide) (by rw [c_131]; decide) (by rw [c_131]; rfl) (by decide) ?_
          refine lv_aload_n hx hb d_Ref_turnedInto_211 rfl (lv_at hl 1 rfl) ?_
          refine lv_bipush (v := (64 : Int32)) hx hb d_Ref_turnedInto_212 (by decide) ?_
          refine rv_v (As := [.int (64 : Int32)]) (rest := []) hq hA hP hS (c_Ref_format l A ad D cB cJ o r hne hA cd la lo hi re wi fr bi mi am we f (64 : Int32)) kB_Ref_format wt_558 ⟨rfl, rfl, Nat.le_of_ble_eq_true rfl, Nat.le_of_ble_eq_true rfl⟩ rfl hl.1 rfl (Nat.le_of_ble_eq_true rfl) d_Ref_turnedInto_214 ⟨Nat.zero_le _, Nat.zero_le _⟩ (fun H locs hP hS => ?_)
          refine lv_aload_n hx hb d_Ref_turnedInto_217 rfl (lv_at hl 1 rfl) ?_
          refine lv_iload_n hx hb d_Ref_turnedInto_218 rfl (lv_at hl 2 rfl) ?_
          refine lv_sipush (v := (183 : Int32)) hx hb d_Ref_turnedInto_219 (by decide) ?_
          refine jn_ (J := 235) (ls := ls) (v := .long (if a0 = (183 : Int32) then (q_Ref_withSign a1 (32 : Int32)) else a1)) (rest := [.ref o]) (fun hj => ?_) ?_
          · refine lv_icmp_ne (tgt := 234) hx hb d_Ref_turnedInto_222 (by decide) (fun c_132 => ?_) (fun c_132 => ?_)
            · refine lv_lload_n hx hb d_Ref_turnedInto_234 rfl (lv_at hl 3 rfl) ?_
              exact (by rw [if_neg c_132] at hj; exact hj)
            · refine lv_lload_n hx hb d_Ref_turnedInto_225 rfl (lv_at hl 3 rfl) ?_
              refine lv_bipush (v := (32 : Int32)) hx hb d_Ref_turnedInto_226 (by decide) ?_
              refine hl_ (As := [.long a1, .int (32 : Int32)]) (rest := [.ref o]) hq hA hS (c_Ref_withSign l A ad a1 (32 : Int32)) kB_Ref_withSign wt_600 ⟨rfl, rfl, Nat.le_of_ble_eq_true rfl, Nat.le_of_ble_eq_true rfl⟩ rfl hl.1 rfl (Nat.le_of_ble_eq_true rfl) d_Ref_turnedInto_228 ⟨Nat.zero_le _, Nat.zero_le _⟩ ?_
              refine lv_goto (tgt := 235) hx hb d_Ref_turnedInto_231 (by decide) ?_
              exact (by rw [if_pos c_132] at hj; exact hj)
          refine lv_iload hx hb d_Ref_turnedInto_235 (lv_at hl 0 rfl) ?_
          refine jn_ (J := 245) (ls := ls) (v := .int (if (if (a0 - a0 / (2 : Int32) * (2 : Int32)) = 0 then (1 : Int32) else (0 : Int32)) = 0 then (1 : Int32) else (0 : Int32))) (rest := [.long (if a0 = (183 : Int32) then (q_Ref_withSign a1 (32 : Int32)) else a1), .ref o]) (fun hj => ?_) ?_
          · refine lv_if_ne (tgt := 244) hx hb d_Ref_turnedInto_237 (by decide) (fun c_133 => ?_) (fun c_133 => ?_)
            · refine lv_iconst (v := (0 : Int32)) hx hb d_Ref_turnedInto_244 (by decide) ?_
              exact (by rw [if_neg c_133] at hj; exact hj)
            · refine lv_iconst (v := (1 : Int32)) hx hb d_Ref_turnedInto_240 (by decide) ?_
              refine lv_goto (tgt := 245) hx hb d_Ref_turnedInto_241 (by decide) ?_
              exact (by rw [if_pos c_133] at hj; exact hj)
          refine rq_ (As := [.long (if a0 = (183 : Int32) then (q_Ref_withSign a1 (32 : Int32)) else a1), .int (if (if (a0 - a0 / (2 : Int32) * (2 : Int32)) = 0 then (1 : Int32) else (0 : Int32)) = 0 then (1 : Int32) else (0 : Int32))]) (rest := []) hq hA hP hS (c_Ref_floating l A ad D cB cJ o r hne hA cd la lo hi re (q_Ref_format_wi (64 : Int32)) (q_Ref_format_fr (64 : Int32)) (q_Ref_format_bi (64 : Int32)) mi am we f N hf hI hre (if a0 = (183 : Int32) then (q_Ref_withSign a1 (32 : Int32)) else a1) (if (if (a0 - a0 / (2 : Int32) * (2 : Int32)) = 0 then (1 : Int32) else (0 : Int32)) = 0 then (1 : Int32) else (0 : Int32)) (fF (64 : Int32)) (fB (64 : Int32)) (fm_of (Or.inr rfl))) kB_Ref_floating wt_603 ⟨rfl, rfl, Nat.le_of_ble_eq_true rfl, Nat.le_of_ble_eq_true rfl⟩ rfl hl.1 rfl (Nat.le_of_ble_eq_true rfl) d_Ref_turnedInto_245 ⟨Nat.zero_le _, Nat.zero_le _⟩ (fun v9 fs9 f_134 H locs hk9 hP hS => ?_)
          obtain ⟨rfl, lo_134, hi_134, re_134, wi_134, fr_134, bi_134, mi_134, am_134, we_134, N_134, rfl, hre_134, hf_134, hI_134⟩ := hk9
          exact qr_l hq hr hk hP hS ⟨congrArg (fun z => some (Value.long z)) (by unfold q_Ref_turnedInto; exact (((if_neg c_2).trans ((if_neg c_95).trans ((if_pos c_98).trans ((if_neg c_99).trans ((if_neg c_101).trans ((if_neg c_103).trans ((if_neg c_107).trans ((if_neg c_111).trans ((if_neg c_115).trans ((if_neg c_119).trans ((if_neg c_123).trans ((if_neg c_127).trans ((if_pos c_131).trans rfl)))))))))))))).symm), _, _, _, _, _, _, _, _, _, _, (by rw [show q_Ref_turnedInto_cd cd a0 a1 = cd from by unfold q_Ref_turnedInto_cd; exact ((if_neg c_2).trans ((if_neg c_95).trans ((if_pos c_98).trans ((if_neg c_99).trans ((if_neg c_101).trans ((if_neg c_103).trans ((if_neg c_107).trans ((if_neg c_111).trans ((if_neg c_115).trans ((if_neg c_119).trans ((if_neg c_123).trans ((if_neg c_127).trans ((if_pos c_131).trans rfl)))))))))))))]; first | done | rfl), hre_134, hf_134, hI_134⟩ d_Ref_turnedInto_248
        by_cases c_135 : a0 = (186 : Int32)
        · refine lv_tableIn (tgt := 211) hx hb d_Ref_turnedInto_83 (by rw [c_135]; decide) (by rw [c_135]; decide) (by rw [c_135]; rfl) (by decide) ?_
          refine lv_aload_n hx hb d_Ref_turnedInto_211 rfl (lv_at hl 1 rfl) ?_
          refine lv_bipush (v := (64 : Int32)) hx hb d_Ref_turnedInto_212 (by decide) ?_
          refine rv_v (As := [.int (64 : Int32)]) (rest := []) hq hA hP hS (c_Ref_format l A ad D cB cJ o r hne hA cd la lo hi re wi fr bi mi am we f (64 : Int32)) kB_Ref_format wt_558 ⟨rfl, rfl, Nat.le_of_ble_eq_true rfl, Nat.le_of_ble_eq_true rfl⟩ rfl hl.1 rfl (Nat.le_of_ble_eq_true rfl) d_Ref_turnedInto_214 ⟨Nat.zero_le _, Nat.zero_le _⟩ (fun H locs hP hS => ?_)
          refine lv_aload_n hx hb d_Ref_turnedInto_217 rfl (lv_at hl 1 rfl) ?_
          refine lv_iload_n hx hb d_Ref_turnedInto_218 rfl (lv_at hl 2 rfl) ?_
          refine lv_sipush (v := (183 : Int32)) hx hb d_Ref_turnedInto_219 (by decide) ?_
          refine jn_ (J := 235) (ls := ls) (v := .long (if a0 = (183 : Int32) then (q_Ref_withSign a1 (32 : Int32)) else a1)) (rest := [.ref o]) (fun hj => ?_) ?_
          · refine lv_icmp_ne (tgt := 234) hx hb d_Ref_turnedInto_222 (by decide) (fun c_136 => ?_) (fun c_136 => ?_)
            · refine lv_lload_n hx hb d_Ref_turnedInto_234 rfl (lv_at hl 3 rfl) ?_
              exact (by rw [if_neg c_136] at hj; exact hj)
            · refine lv_lload_n hx hb d_Ref_turnedInto_225 rfl (lv_at hl 3 rfl) ?_
              refine lv_bipush (v := (32 : Int32)) hx hb d_Ref_turnedInto_226 (by decide) ?_
              refine hl_ (As := [.long a1, .int (32 : Int32)]) (rest := [.ref o]) hq hA hS (c_Ref_withSign l A ad a1 (32 : Int32)) kB_Ref_withSign wt_600 ⟨rfl, rfl, Nat.le_of_ble_eq_true rfl, Nat.le_of_ble_eq_true rfl⟩ rfl hl.1 rfl (Nat.le_of_ble_eq_true rfl) d_Ref_turnedInto_228 ⟨Nat.zero_le _, Nat.zero_le _⟩ ?_
              refine lv_goto (tgt := 235) hx hb d_Ref_turnedInto_231 (by decide) ?_
              exact (by rw [if_pos c_136] at hj; exact hj)
          refine lv_iload hx hb d_Ref_turnedInto_235 (lv_at hl 0 rfl) ?_
          refine jn_ (J := 245) (ls := ls) (v := .int (if (if (a0 - a0 / (2 : Int32) * (2 : Int32)) = 0 then (1 : Int32) else (0 : Int32)) = 0 then (1 : Int32) else (0 : Int32))) (rest := [.long (if a0 = (183 : Int32) then (q_Ref_withSign a1 (32 : Int32)) else a1), .ref o]) (fun hj => ?_) ?_
          · refine lv_if_ne (tgt := 244) hx hb d_Ref_turnedInto_237 (by decide) (fun c_137 => ?_) (fun c_137 => ?_)
            · refine lv_iconst (v := (0 : Int32)) hx hb d_Ref_turnedInto_244 (by decide) ?_
              exact (by rw [if_neg c_137] at hj; exact hj)
            · refine lv_iconst (v := (1 : Int32)) hx hb d_Ref_turnedInto_240 (by decide) ?_
              refine lv_goto (tgt := 245) hx hb d_Ref_turnedInto_241 (by decide) ?_
              exact (by rw [if_pos c_137] at hj; exact hj)
          refine rq_ (As := [.long (if a0 = (183 : Int32) then (q_Ref_withSign a1 (32 : Int32)) else a1), .int (if (if (a0 - a0 / (2 : Int32) * (2 : Int32)) = 0 then (1 : Int32) else (0 : Int32)) = 0 then (1 : Int32) else (0 : Int32))]) (rest := []) hq hA hP hS (c_Ref_floating l A ad D cB cJ o r hne hA cd la lo hi re (q_Ref_format_wi (64 : Int32)) (q_Ref_format_fr (64 : Int32)) (q_Ref_format_bi (64 : Int32)) mi am we f N hf hI hre (if a0 = (183 : Int32) then (q_Ref_withSign a1 (32 : Int32)) else a1) (if (if (a0 - a0 / (2 : Int32) * (2 : Int32)) = 0 then (1 : Int32) else (0 : Int32)) = 0 then (1 : Int32) else (0 : Int32)) (fF (64 : Int32)) (fB (64 : Int32)) (fm_of (Or.inr rfl))) kB_Ref_floating wt_603 ⟨rfl, rfl, Nat.le_of_ble_eq_true rfl, Nat.le_of_ble_eq_true rfl⟩ rfl hl.1 rfl (Nat.le_of_ble_eq_true rfl) d_Ref_turnedInto_245 ⟨Nat.zero_le _, Nat.zero_le _⟩ (fun v9 fs9 f_138 H locs hk9 hP hS => ?_)
          obtain ⟨rfl, lo_138, hi_138, re_138, wi_138, fr_138, bi_138, mi_138, am_138, we_138, N_138, rfl, hre_138, hf_138, hI_138⟩ := hk9
          exact qr_l hq hr hk hP hS ⟨congrArg (fun z => some (Value.long z)) (by unfold q_Ref_turnedInto; exact (((if_neg c_2).trans ((if_neg c_95).trans ((if_pos c_98).trans ((if_neg c_99).trans ((if_neg c_101).trans ((if_neg c_103).trans ((if_neg c_107).trans ((if_neg c_111).trans ((if_neg c_115).trans ((if_neg c_119).trans ((if_neg c_123).trans ((if_neg c_127).trans ((if_neg c_131).trans ((if_pos c_135).trans rfl))))))))))))))).symm), _, _, _, _, _, _, _, _, _, _, (by rw [show q_Ref_turnedInto_cd cd a0 a1 = cd from by unfold q_Ref_turnedInto_cd; exact ((if_neg c_2).trans ((if_neg c_95).trans ((if_pos c_98).trans ((if_neg c_99).trans ((if_neg c_101).trans ((if_neg c_103).trans ((if_neg c_107).trans ((if_neg c_111).trans ((if_neg c_115).trans ((if_neg c_119).trans ((if_neg c_123).trans ((if_neg c_127).trans ((if_neg c_131).trans ((if_pos c_135).trans rfl))))))))))))))]; first | done | rfl), hre_138, hf_138, hI_138⟩ d_Ref_turnedInto_248
        by_cases c_139 : a0 = (187 : Int32)
        · refine lv_tableIn (tgt := 249) hx hb d_Ref_turnedInto_83 (by rw [c_139]; decide) (by rw [c_139]; decide) (by rw [c_139]; rfl) (by decide) ?_
          refine lv_aload_n hx hb d_Ref_turnedInto_249 rfl (lv_at hl 1 rfl) ?_
          refine lv_iload_n hx hb d_Ref_turnedInto_250 rfl (lv_at hl 2 rfl) ?_
          refine lv_sipush (v := (182 : Int32)) hx hb d_Ref_turnedInto_251 (by decide) ?_
          refine jn_ (J := 264) (ls := ls) (v := .int (if a0 = (182 : Int32) then (64 : Int32) else (32 : Int32))) (rest := [.ref o]) (fun hj => ?_) ?_
          · refine lv_icmp_ne (tgt := 262) hx hb d_Ref_turnedInto_254 (by decide) (fun c_140 => ?_) (fun c_140 => ?_)
            · refine lv_bipush (v := (32 : Int32)) hx hb d_Ref_turnedInto_262 (by decide) ?_
              exact (by rw [if_neg c_140] at hj; exact hj)
            · refine lv_bipush (v := (64 : Int32)) hx hb d_Ref_turnedInto_257 (by decide) ?_
              refine lv_goto (tgt := 264) hx hb d_Ref_turnedInto_259 (by decide) ?_
              exact (by rw [if_pos c_140] at hj; exact hj)
          refine rv_v (As := [.int (if a0 = (182 : Int32) then (64 : Int32) else (32 : Int32))]) (rest := []) hq hA hP hS (c_Ref_format l A ad D cB cJ o r hne hA cd la lo hi re wi fr bi mi am we f (if a0 = (182 : Int32) then (64 : Int32) else (32 : Int32))) kB_Ref_format wt_558 ⟨rfl, rfl, Nat.le_of_ble_eq_true rfl, Nat.le_of_ble_eq_true rfl⟩ rfl hl.1 rfl (Nat.le_of_ble_eq_true rfl) d_Ref_turnedInto_264 ⟨Nat.zero_le _, Nat.zero_le _⟩ (fun H locs hP hS => ?_)
          refine lv_aload_n hx hb d_Ref_turnedInto_267 rfl (lv_at hl 1 rfl) ?_
          refine lv_lload_n hx hb d_Ref_turnedInto_268 rfl (lv_at hl 3 rfl) ?_
          refine lv_iload_n hx hb d_Ref_turnedInto_269 rfl (lv_at hl 2 rfl) ?_
          refine lv_sipush (v := (182 : Int32)) hx hb d_Ref_turnedInto_270 (by decide) ?_
          refine jn_ (J := 283) (ls := ls) (v := .int (if a0 = (182 : Int32) then (32 : Int32) else (64 : Int32))) (rest := [.long a1, .ref o]) (fun hj => ?_) ?_
          · refine lv_icmp_ne (tgt := 281) hx hb d_Ref_turnedInto_273 (by decide) (fun c_141 => ?_) (fun c_141 => ?_)
            · refine lv_bipush (v := (64 : Int32)) hx hb d_Ref_turnedInto_281 (by decide) ?_
              exact (by rw [if_neg c_141] at hj; exact hj)
            · refine lv_bipush (v := (32 : Int32)) hx hb d_Ref_turnedInto_276 (by decide) ?_
              refine lv_goto (tgt := 283) hx hb d_Ref_turnedInto_278 (by decide) ?_
              exact (by rw [if_pos c_141] at hj; exact hj)
          refine rq_ (As := [.long a1, .int (if a0 = (182 : Int32) then (32 : Int32) else (64 : Int32))]) (rest := []) hq hA hP hS (c_Ref_reformed l A ad D cB cJ o r hne hA cd la lo hi re (q_Ref_format_wi (if a0 = (182 : Int32) then (64 : Int32) else (32 : Int32))) (q_Ref_format_fr (if a0 = (182 : Int32) then (64 : Int32) else (32 : Int32))) (q_Ref_format_bi (if a0 = (182 : Int32) then (64 : Int32) else (32 : Int32))) mi am we f N hf hI hre a1 (if a0 = (182 : Int32) then (32 : Int32) else (64 : Int32)) (fF (if a0 = (182 : Int32) then (64 : Int32) else (32 : Int32))) (fB (if a0 = (182 : Int32) then (64 : Int32) else (32 : Int32))) (fm_of (by (repeat' split) <;> first | exact Or.inl rfl | exact Or.inr rfl)) (fF (if a0 = (182 : Int32) then (32 : Int32) else (64 : Int32))) (fB (if a0 = (182 : Int32) then (32 : Int32) else (64 : Int32))) (fm_of (by (repeat' split) <;> first | exact Or.inl rfl | exact Or.inr rfl))) kB_Ref_reformed wt_631 ⟨rfl, rfl, Nat.le_of_ble_eq_true rfl, Nat.le_of_ble_eq_true rfl⟩ rfl hl.1 rfl (Nat.le_of_ble_eq_true rfl) d_Ref_turnedInto_283 ⟨Nat.zero_le _, Nat.zero_le _⟩ (fun v9 fs9 f_142 H locs hk9 hP hS => ?_)
          obtain ⟨rfl, lo_142, hi_142, re_142, wi_142, fr_142, bi_142, mi_142, am_142, we_142, N_142, rfl, hre_142, hf_142, hI_142⟩ := hk9
          exact qr_l hq hr hk hP hS ⟨congrArg (fun z => some (Value.long z)) (by unfold q_Ref_turnedInto; exact (((if_neg c_2).trans ((if_neg c_95).trans ((if_pos c_98).trans ((if_neg c_99).trans ((if_neg c_101).trans ((if_neg c_103).trans ((if_neg c_107).trans ((if_neg c_111).trans ((if_neg c_115).trans ((if_neg c_119).trans ((if_neg c_123).trans ((if_neg c_127).trans ((if_neg c_131).trans ((if_neg c_135).trans ((if_pos c_139).trans rfl)))))))))))))))).symm), _, _, _, _, _, _, _, _, _, _, (by rw [show q_Ref_turnedInto_cd cd a0 a1 = cd from by unfold q_Ref_turnedInto_cd; exact ((if_neg c_2).trans ((if_neg c_95).trans ((if_pos c_98).trans ((if_neg c_99).trans ((if_neg c_101).trans ((if_neg c_103).trans ((if_neg c_107).trans ((if_neg c_111).trans ((if_neg c_115).trans ((if_neg c_119).trans ((if_neg c_123).trans ((if_neg c_127).trans ((if_neg c_131).trans ((if_neg c_135).trans ((if_pos c_139).trans rfl)))))))))))))))]; first | done | rfl), hre_142, hf_142, hI_142⟩ d_Ref_turnedInto_286
        have hsw : a0.toInt < 172 ∨ 187 < a0.toInt ∨ a0.toInt = 174 ∨ a0.toInt = 175 ∨ a0.toInt = 176 ∨ a0.toInt = 177 := by
          have := lv_neT c_99 (a := 172) (by decide)
          have := lv_neT c_101 (a := 173) (by decide)
          have := lv_neT c_103 (a := 178) (by decide)
          have := lv_neT c_107 (a := 179) (by decide)
          have := lv_neT c_111 (a := 180) (by decide)
          have := lv_neT c_115 (a := 181) (by decide)
          have := lv_neT c_119 (a := 182) (by decide)
          have := lv_neT c_123 (a := 183) (by decide)
          have := lv_neT c_127 (a := 184) (by decide)
          have := lv_neT c_131 (a := 185) (by decide)
          have := lv_neT c_135 (a := 186) (by decide)
          have := lv_neT c_139 (a := 187) (by decide)
          omega
        have hs2 : a0.toInt < 172 ∨ 187 < a0.toInt ∨ (¬ a0.toInt < 172 ∧ ¬ 187 < a0.toInt ∧ (#[77, 77, 204, 204, 204, 204, 93, 93, 93, 93, 166, 128, 128, 128, 128, 166] : Array Int)[(a0.toInt - 172).toNat]? = some 204) := by
          rcases hsw with h9 | h9 | h9 | h9 | h9 | h9
          · exact Or.inl h9
          · exact Or.inr (Or.inl h9)
          all_goals exact Or.inr (Or.inr ⟨by rw [h9]; decide, by rw [h9]; decide, by rw [h9] <;> rfl⟩)
        refine tb_dflt (tgt := 287) hx hb d_Ref_turnedInto_83 hs2 (by decide) ?_
        refine lv_lload_n hx hb d_Ref_turnedInto_287 rfl (lv_at hl 3 rfl) ?_
        exact qr_l hq hr hk hP hS ⟨congrArg (fun z => some (Value.long z)) (by unfold q_Ref_turnedInto; exact (((if_neg c_2).trans ((if_neg c_95).trans ((if_pos c_98).trans ((if_neg c_99).trans ((if_neg c_101).trans ((if_neg c_103).trans ((if_neg c_107).trans ((if_neg c_111).trans ((if_neg c_115).trans ((if_neg c_119).trans ((if_neg c_123).trans ((if_neg c_127).trans ((if_neg c_131).trans ((if_neg c_135).trans ((if_neg c_139).trans rfl)))))))))))))))).symm), _, _, _, _, _, _, _, _, _, _, (by rw [show q_Ref_turnedInto_cd cd a0 a1 = cd from by unfold q_Ref_turnedInto_cd; exact ((if_neg c_2).trans ((if_neg c_95).trans ((if_pos c_98).trans ((if_neg c_99).trans ((if_neg c_101).trans ((if_neg c_103).trans ((if_neg c_107).trans ((if_neg c_111).trans ((if_neg c_115).trans ((if_neg c_119).trans ((if_neg c_123).trans ((if_neg c_127).trans ((if_neg c_131).trans ((if_neg c_135).trans ((if_neg c_139).trans rfl)))))))))))))))]; first | done | rfl), hre, hf, hI⟩ d_Ref_turnedInto_288
      · refine lv_iload_n hx hb d_Ref_turnedInto_34 rfl (lv_at hl 2 rfl) ?_
        refine lv_sipush (v := (177 : Int32)) hx hb d_Ref_turnedInto_35 (by decide) ?_
        refine lv_icmp_gt (tgt := 82) hx hb d_Ref_turnedInto_38 (by decide) (fun c_143 => ?_) (fun c_143 => ?_)
        · refine lv_iload_n hx hb d_Ref_turnedInto_82 rfl (lv_at hl 2 rfl) ?_
          by_cases c_144 : a0 = (172 : Int32)
          · refine lv_tableIn (tgt := 160) hx hb d_Ref_turnedInto_83 (by rw [c_144]; decide) (by rw [c_144]; decide) (by rw [c_144]; rfl) (by decide) ?_
            refine lv_iload hx hb d_Ref_turnedInto_160 (lv_at hl 0 rfl) ?_
            refine jn_ (J := 175) (ls := ls) (v := .long (if (if (a0 - a0 / (2 : Int32) * (2 : Int32)) = 0 then (1 : Int32) else (0 : Int32)) = 0 then a1 else (q_Ref_withSign a1 (32 : Int32)))) (rest := []) (fun hj => ?_) ?_
            · refine lv_if_eq (tgt := 174) hx hb d_Ref_turnedInto_162 (by decide) (fun c_145 => ?_) (fun c_145 => ?_)
              · refine lv_lload_n hx hb d_Ref_turnedInto_174 rfl (lv_at hl 3 rfl) ?_
                exact (by rw [if_pos c_145] at hj; exact hj)
              · refine lv_lload_n hx hb d_Ref_turnedInto_165 rfl (lv_at hl 3 rfl) ?_
                refine lv_bipush (v := (32 : Int32)) hx hb d_Ref_turnedInto_166 (by decide) ?_
                refine hl_ (As := [.long a1, .int (32 : Int32)]) (rest := []) hq hA hS (c_Ref_withSign l A ad a1 (32 : Int32)) kB_Ref_withSign wt_600 ⟨rfl, rfl, Nat.le_of_ble_eq_true rfl, Nat.le_of_ble_eq_true rfl⟩ rfl hl.1 rfl (Nat.le_of_ble_eq_true rfl) d_Ref_turnedInto_168 ⟨Nat.zero_le _, Nat.zero_le _⟩ ?_
                refine lv_goto (tgt := 175) hx hb d_Ref_turnedInto_171 (by decide) ?_
                exact (by rw [if_neg c_145] at hj; exact hj)
            exact qr_l hq hr hk hP hS ⟨congrArg (fun z => some (Value.long z)) (by unfold q_Ref_turnedInto; exact (((if_neg c_2).trans ((if_neg c_95).trans ((if_neg c_98).trans ((if_pos c_143).trans ((if_pos c_144).trans rfl)))))).symm), _, _, _, _, _, _, _, _, _, _, (by rw [show q_Ref_turnedInto_cd cd a0 a1 = cd from by unfold q_Ref_turnedInto_cd; exact ((if_neg c_2).trans ((if_neg c_95).trans ((if_neg c_98).trans ((if_pos c_143).trans ((if_pos c_144).trans rfl)))))]; first | done | rfl), hre, hf, hI⟩ d_Ref_turnedInto_175
          by_cases c_146 : a0 = (173 : Int32)
          · refine lv_tableIn (tgt := 160) hx hb d_Ref_turnedInto_83 (by rw [c_146]; decide) (by rw [c_146]; decide) (by rw [c_146]; rfl) (by decide) ?_
            refine lv_iload hx hb d_Ref_turnedInto_160 (lv_at hl 0 rfl) ?_
            refine jn_ (J := 175) (ls := ls) (v := .long (if (if (a0 - a0 / (2 : Int32) * (2 : Int32)) = 0 then (1 : Int32) else (0 : Int32)) = 0 then a1 else (q_Ref_withSign a1 (32 : Int32)))) (rest := []) (fun hj => ?_) ?_
            · refine lv_if_eq (tgt := 174) hx hb d_Ref_turnedInto_162 (by decide) (fun c_147 => ?_) (fun c_147 => ?_)
              · refine lv_lload_n hx hb d_Ref_turnedInto_174 rfl (lv_at hl 3 rfl) ?_
                exact (by rw [if_pos c_147] at hj; exact hj)
              · refine lv_lload_n hx hb d_Ref_turnedInto_165 rfl (lv_at hl 3 rfl) ?_
                refine lv_bipush (v := (32 : Int32)) hx hb d_Ref_turnedInto_166 (by decide) ?_
                refine hl_ (As := [.long a1, .int (32 : Int32)]) (rest := []) hq hA hS (c_Ref_withSign l A ad a1 (32 : Int32)) kB_Ref_withSign wt_600 ⟨rfl, rfl, Nat.le_of_ble_eq_true rfl, Nat.le_of_ble_eq_true rfl⟩ rfl hl.1 rfl (Nat.le_of_ble_eq_true rfl) d_Ref_turnedInto_168 ⟨Nat.zero_le _, Nat.zero_le _⟩ ?_
                refine lv_goto (tgt := 175) hx hb d_Ref_turnedInto_171 (by decide) ?_
                exact (by rw [if_neg c_147] at hj; exact hj)
            exact qr_l hq hr hk hP hS ⟨congrArg (fun z => some (Value.long z)) (by unfold q_Ref_turnedInto; exact (((if_neg c_2).trans ((if_neg c_95).trans ((if_neg c_98).trans ((if_pos c_143).trans ((if_neg c_144).trans ((if_pos c_146).trans rfl))))))).symm), _, _, _, _, _, _, _, _, _, _, (by rw [show q_Ref_turnedInto_cd cd a0 a1 = cd from by unfold q_Ref_turnedInto_cd; exact ((if_neg c_2).trans ((if_neg c_95).trans ((if_neg c_98).trans ((if_pos c_143).trans ((if_neg c_144).trans ((if_pos c_146).trans rfl))))))]; first | done | rfl), hre, hf, hI⟩ d_Ref_turnedInto_175
          by_cases c_148 : a0 = (178 : Int32)
          · refine lv_tableIn (tgt := 176) hx hb d_Ref_turnedInto_83 (by rw [c_148]; decide) (by rw [c_148]; decide) (by rw [c_148]; rfl) (by decide) ?_
            refine lv_aload_n hx hb d_Ref_turnedInto_176 rfl (lv_at hl 1 rfl) ?_
            refine lv_bipush (v := (32 : Int32)) hx hb d_Ref_turnedInto_177 (by decide) ?_
            refine rv_v (As := [.int (32 : Int32)]) (rest := []) hq hA hP hS (c_Ref_format l A ad D cB cJ o r hne hA cd la lo hi re wi fr bi mi am we f (32 : Int32)) kB_Ref_format wt_558 ⟨rfl, rfl, Nat.le_of_ble_eq_true rfl, Nat.le_of_ble_eq_true rfl⟩ rfl hl.1 rfl (Nat.le_of_ble_eq_true rfl) d_Ref_turnedInto_179 ⟨Nat.zero_le _, Nat.zero_le _⟩ (fun H locs hP hS => ?_)
            refine lv_aload_n hx hb d_Ref_turnedInto_182 rfl (lv_at hl 1 rfl) ?_
            refine lv_iload hx hb d_Ref_turnedInto_183 (lv_at hl 0 rfl) ?_
            refine jn_ (J := 205) (ls := ls) (v := .long (if (if (a0 - a0 / (2 : Int32) * (2 : Int32)) = 0 then (1 : Int32) else (0 : Int32)) = 0 then a1 else (if (180 : Int32) ≤ a0 then a1 else (q_Ref_withSign a1 (32 : Int32))))) (rest := [.ref o]) (fun hj => ?_) ?_
            · refine lv_if_eq (tgt := 204) hx hb d_Ref_turnedInto_185 (by decide) (fun c_149 => ?_) (fun c_149 => ?_)
              · refine lv_lload_n hx hb d_Ref_turnedInto_204 rfl (lv_at hl 3 rfl) ?_
                exact (by rw [if_pos c_149] at hj; exact hj)
              · refine lv_iload_n hx hb d_Ref_turnedInto_188 rfl (lv_at hl 2 rfl) ?_
                refine lv_sipush (v := (180 : Int32)) hx hb d_Ref_turnedInto_189 (by decide) ?_
                refine jn_ (J := 205) (ls := ls) (v := .long (if (180 : Int32) ≤ a0 then a1 else (q_Ref_withSign a1 (32 : Int32)))) (rest := [.ref o]) (fun hj => ?_) ?_
                · refine lv_icmp_ge (tgt := 204) hx hb d_Ref_turnedInto_192 (by decide) (fun c_150 => ?_) (fun c_150 => ?_)
                  · refine lv_lload_n hx hb d_Ref_turnedInto_204 rfl (lv_at hl 3 rfl) ?_
                    exact (by rw [if_pos c_150] at hj; exact hj)
                  · refine lv_lload_n hx hb d_Ref_turnedInto_195 rfl (lv_at hl 3 rfl) ?_
                    refine lv_bipush (v := (32 : Int32)) hx hb d_Ref_turnedInto_196 (by decide) ?_
                    refine hl_ (As := [.long a1, .int (32 : Int32)]) (rest := [.ref o]) hq hA hS (c_Ref_withSign l A ad a1 (32 : Int32)) kB_Ref_withSign wt_600 ⟨rfl, rfl, Nat.le_of_ble_eq_true rfl, Nat.le_of_ble_eq_true rfl⟩ rfl hl.1 rfl (Nat.le_of_ble_eq_true rfl) d_Ref_turnedInto_198 ⟨Nat.zero_le _, Nat.zero_le _⟩ ?_
                    refine lv_goto (tgt := 205) hx hb d_Ref_turnedInto_201 (by decide) ?_
                    exact (by rw [if_neg c_150] at hj; exact hj)
                exact (by rw [if_neg c_149] at hj; exact hj)
            refine lv_iload hx hb d_Ref_turnedInto_205 (lv_at hl 0 rfl) ?_
            refine rq_ (As := [.long (if (if (a0 - a0 / (2 : Int32) * (2 : Int32)) = 0 then (1 : Int32) else (0 : Int32)) = 0 then a1 else (if (180 : Int32) ≤ a0 then a1 else (q_Ref_withSign a1 (32 : Int32)))), .int (if (a0 - a0 / (2 : Int32) * (2 : Int32)) = 0 then (1 : Int32) else (0 : Int32))]) (rest := []) hq hA hP hS (c_Ref_floating l A ad D cB cJ o r hne hA cd la lo hi re (q_Ref_format_wi (32 : Int32)) (q_Ref_format_fr (32 : Int32)) (q_Ref_format_bi (32 : Int32)) mi am we f N hf hI hre (if (if (a0 - a0 / (2 : Int32) * (2 : Int32)) = 0 then (1 : Int32) else (0 : Int32)) = 0 then a1 else (if (180 : Int32) ≤ a0 then a1 else (q_Ref_withSign a1 (32 : Int32)))) (if (a0 - a0 / (2 : Int32) * (2 : Int32)) = 0 then (1 : Int32) else (0 : Int32)) (fF (32 : Int32)) (fB (32 : Int32)) (fm_of (Or.inl rfl))) kB_Ref_floating wt_603 ⟨rfl, rfl, Nat.le_of_ble_eq_true rfl, Nat.le_of_ble_eq_true rfl⟩ rfl hl.1 rfl (Nat.le_of_ble_eq_true rfl) d_Ref_turnedInto_207 ⟨Nat.zero_le _, Nat.zero_le _⟩ (fun v9 fs9 f_151 H locs hk9 hP hS => ?_)
            obtain ⟨rfl, lo_151, hi_151, re_151, wi_151, fr_151, bi_151, mi_151, am_151, we_151, N_151, rfl, hre_151, hf_151, hI_151⟩ := hk9
            exact qr_l hq hr hk hP hS ⟨congrArg (fun z => some (Value.long z)) (by unfold q_Ref_turnedInto; exact (((if_neg c_2).trans ((if_neg c_95).trans ((if_neg c_98).trans ((if_pos c_143).trans ((if_neg c_144).trans ((if_neg c_146).trans ((if_pos c_148).trans rfl)))))))).symm), _, _, _, _, _, _, _, _, _, _, (by rw [show q_Ref_turnedInto_cd cd a0 a1 = cd from by unfold q_Ref_turnedInto_cd; exact ((if_neg c_2).trans ((if_neg c_95).trans ((if_neg c_98).trans ((if_pos c_143).trans ((if_neg c_144).trans ((if_neg c_146).trans ((if_pos c_148).trans rfl)))))))]; first | done | rfl), hre_151, hf_151, hI_151⟩ d_Ref_turnedInto_210
          by_cases c_152 : a0 = (179 : Int32)
          · refine lv_tableIn (tgt := 176) hx hb d_Ref_turnedInto_83 (by rw [c_152]; decide) (by rw [c_152]; decide) (by rw [c_152]; rfl) (by decide) ?_
            refine lv_aload_n hx hb d_Ref_turnedInto_176 rfl (lv_at hl 1 rfl) ?_
            refine lv_bipush (v := (32 : Int32)) hx hb d_Ref_turnedInto_177 (by decide) ?_
            refine rv_v (As := [.int (32 : Int32)]) (rest := []) hq hA hP hS (c_Ref_format l A ad D cB cJ o r hne hA cd la lo hi re wi fr bi mi am we f (32 : Int32)) kB_Ref_format wt_558 ⟨rfl, rfl, Nat.le_of_ble_eq_true rfl, Nat.le_of_ble_eq_true rfl⟩ rfl hl.1 rfl (Nat.le_of_ble_eq_true rfl) d_Ref_turnedInto_179 ⟨Nat.zero_le _, Nat.zero_le _⟩ (fun H locs hP hS => ?_)
            refine lv_aload_n hx hb d_Ref_turnedInto_182 rfl (lv_at hl 1 rfl) ?_
            refine lv_iload hx hb d_Ref_turnedInto_183 (lv_at hl 0 rfl) ?_
            refine jn_ (J := 205) (ls := ls) (v := .long (if (if (a0 - a0 / (2 : Int32) * (2 : Int32)) = 0 then (1 : Int32) else (0 : Int32)) = 0 then a1 else (if (180 : Int32) ≤ a0 then a1 else (q_Ref_withSign a1 (32 : Int32))))) (rest := [.ref o]) (fun hj => ?_) ?_
            · refine lv_if_eq (tgt := 204) hx hb d_Ref_turnedInto_185 (by decide) (fun c_153 => ?_) (fun c_153 => ?_)
              · refine lv_lload_n hx hb d_Ref_turnedInto_204 rfl (lv_at hl 3 rfl) ?_
                exact (by rw [if_pos c_153] at hj; exact hj)
              · refine lv_iload_n hx hb d_Ref_turnedInto_188 rfl (lv_at hl 2 rfl) ?_
                refine lv_sipush (v := (180 : Int32)) hx hb d_Ref_turnedInto_189 (by decide) ?_
                refine jn_ (J := 205) (ls := ls) (v := .long (if (180 : Int32) ≤ a0 then a1 else (q_Ref_withSign a1 (32 : Int32)))) (rest := [.ref o]) (fun hj => ?_) ?_
                · refine lv_icmp_ge (tgt := 204) hx hb d_Ref_turnedInto_192 (by decide) (fun c_154 => ?_) (fun c_154 => ?_)
                  · refine lv_lload_n hx hb d_Ref_turnedInto_204 rfl (lv_at hl 3 rfl) ?_
                    exact (by rw [if_pos c_154] at hj; exact hj)
                  · refine lv_lload_n hx hb d_Ref_turnedInto_195 rfl (lv_at hl 3 rfl) ?_
                    refine lv_bipush (v := (32 : Int32)) hx hb d_Ref_turnedInto_196 (by decide) ?_
                    refine hl_ (As := [.long a1, .int (32 : Int32)]) (rest := [.ref o]) hq hA hS (c_Ref_withSign l A ad a1 (32 : Int32)) kB_Ref_withSign wt_600 ⟨rfl, rfl, Nat.le_of_ble_eq_true rfl, Nat.le_of_ble_eq_true rfl⟩ rfl hl.1 rfl (Nat.le_of_ble_eq_true rfl) d_Ref_turnedInto_198 ⟨Nat.zero_le _, Nat.zero_le _⟩ ?_
                    refine lv_goto (tgt := 205) hx hb d_Ref_turnedInto_201 (by decide) ?_
                    exact (by rw [if_neg c_154] at hj; exact hj)
                exact (by rw [if_neg c_153] at hj; exact hj)
            refine lv_iload hx hb d_Ref_turnedInto_205 (lv_at hl 0 rfl) ?_
            refine rq_ (As := [.long (if (if (a0 - a0 / (2 : Int32) * (2 : Int32)) = 0 then (1 : Int32) else (0 : Int32)) = 0 then a1 else (if (180 : Int32) ≤ a0 then a1 else (q_Ref_withSign a1 (32 : Int32)))), .int (if (a0 - a0 / (2 : Int32) * (2 : Int32)) = 0 then (1 : Int32) else (0 : Int32))]) (rest := []) hq hA hP hS (c_Ref_floating l A ad D cB cJ o r hne hA cd la lo hi re (q_Ref_format_wi (32 : Int32)) (q_Ref_format_fr (32 : Int32)) (q_Ref_format_bi (32 : Int32)) mi am we f N hf hI hre (if (if (a0 - a0 / (2 : Int32) * (2 : Int32)) = 0 then (1 : Int32) else (0 : Int32)) = 0 then a1 else (if (180 : Int32) ≤ a0 then a1 else (q_Ref_withSign a1 (32 : Int32)))) (if (a0 - a0 / (2 : Int32) * (2 : Int32)) = 0 then (1 : Int32) else (0 : Int32)) (fF (32 : Int32)) (fB (32 : Int32)) (fm_of (Or.inl rfl))) kB_Ref_floating wt_603 ⟨rfl, rfl, Nat.le_of_ble_eq_true rfl, Nat.le_of_ble_eq_true rfl⟩ rfl hl.1 rfl (Nat.le_of_ble_eq_true rfl) d_Ref_turnedInto_207 ⟨Nat.zero_le _, Nat.zero_le _⟩ (fun v9 fs9 f_155 H locs hk9 hP hS => ?_)
            obtain ⟨rfl, lo_155, hi_155, re_155, wi_155, fr_155, bi_155, mi_155, am_155, we_155, N_155, rfl, hre_155, hf_155, hI_155⟩ := hk9
            exact qr_l hq hr hk hP hS ⟨congrArg (fun z => some (Value.long z)) (by unfold q_Ref_turnedInto; exact (((if_neg c_2).trans ((if_neg c_95).trans ((if_neg c_98).trans ((if_pos c_143).trans ((if_neg c_144).trans ((if_neg c_146).trans ((if_neg c_148).trans ((if_pos c_152).trans rfl))))))))).symm), _, _, _, _, _, _, _, _, _, _, (by rw [show q_Ref_turnedInto_cd cd a0 a1 = cd from by unfold q_Ref_turnedInto_cd; exact ((if_neg c_2).trans ((if_neg c_95).trans ((if_neg c_98).trans ((if_pos c_143).trans ((if_neg c_144).trans ((if_neg c_146).trans ((if_neg c_148).trans ((if_pos c_152).trans rfl))))))))]; first | done | rfl), hre_155, hf_155, hI_155⟩ d_Ref_turnedInto_210
          by_cases c_156 : a0 = (180 : Int32)
          · refine lv_tableIn (tgt := 176) hx hb d_Ref_turnedInto_83 (by rw [c_156]; decide) (by rw [c_156]; decide) (by rw [c_156]; rfl) (by decide) ?_
            refine lv_aload_n hx hb d_Ref_turnedInto_176 rfl (lv_at hl 1 rfl) ?_
            refine lv_bipush (v := (32 : Int32)) hx hb d_Ref_turnedInto_177 (by decide) ?_
            refine rv_v (As := [.int (32 : Int32)]) (rest := []) hq hA hP hS (c_Ref_format l A ad D cB cJ o r hne hA cd la lo hi re wi fr bi mi am we f (32 : Int32)) kB_Ref_format wt_558 ⟨rfl, rfl, Nat.le_of_ble_eq_true rfl, Nat.le_of_ble_eq_true rfl⟩ rfl hl.1 rfl (Nat.le_of_ble_eq_true rfl) d_Ref_turnedInto_179 ⟨Nat.zero_le _, Nat.zero_le _⟩ (fun H locs hP hS => ?_)
            refine lv_aload_n hx hb d_Ref_turnedInto_182 rfl (lv_at hl 1 rfl) ?_
            refine lv_iload hx hb d_Ref_turnedInto_183 (lv_at hl 0 rfl) ?_
            refine jn_ (J := 205) (ls := ls) (v := .long (if (if (a0 - a0 / (2 : Int32) * (2 : Int32)) = 0 then (1 : Int32) else (0 : Int32)) = 0 then a1 else (if (180 : Int32) ≤ a0 then a1 else (q_Ref_withSign a1 (32 : Int32))))) (rest := [.ref o]) (fun hj => ?_) ?_
            · refine lv_if_eq (tgt := 204) hx hb d_Ref_turnedInto_185 (by decide) (fun c_157 => ?_) (fun c_157 => ?_)
              · refine lv_lload_n hx hb d_Ref_turnedInto_204 rfl (lv_at hl 3 rfl) ?_
                exact (by rw [if_pos c_157] at hj; exact hj)
              · refine lv_iload_n hx hb d_Ref_turnedInto_188 rfl (lv_at hl 2 rfl) ?_
                refine lv_sipush (v := (180 : Int32)) hx hb d_Ref_turnedInto_189 (by decide) ?_
                refine jn_ (J := 205) (ls := ls) (v := .long (if (180 : Int32) ≤ a0 then a1 else (q_Ref_withSign a1 (32 : Int32)))) (rest := [.ref o]) (fun hj => ?_) ?_
                · refine lv_icmp_ge (tgt := 204) hx hb d_Ref_turnedInto_192 (by decide) (fun c_158 => ?_) (fun c_158 => ?_)
                  · refine lv_lload_n hx hb d_Ref_turnedInto_204 rfl (lv_at hl 3 rfl) ?_
                    exact (by rw [if_pos c_158] at hj; exact hj)
                  · refine lv_lload_n hx hb d_Ref_turnedInto_195 rfl (lv_at hl 3 rfl) ?_
                    refine lv_bipush (v := (32 : Int32)) hx hb d_Ref_turnedInto_196 (by decide) ?_
                    refine hl_ (As := [.long a1, .int (32 : Int32)]) (rest := [.ref o]) hq hA hS (c_Ref_withSign l A ad a1 (32 : Int32)) kB_Ref_withSign wt_600 ⟨rfl, rfl, Nat.le_of_ble_eq_true rfl, Nat.le_of_ble_eq_true rfl⟩ rfl hl.1 rfl (Nat.le_of_ble_eq_true rfl) d_Ref_turnedInto_198 ⟨Nat.zero_le _, Nat.zero_le _⟩ ?_
                    refine lv_goto (tgt := 205) hx hb d_Ref_turnedInto_201 (by decide) ?_
                    exact (by rw [if_neg c_158] at hj; exact hj)
                exact (by rw [if_neg c_157] at hj; exact hj)
            refine lv_iload hx hb d_Ref_turnedInto_205 (lv_at hl 0 rfl) ?_
            refine rq_ (As := [.long (if (if (a0 - a0 / (2 : Int32) * (2 : Int32)) = 0 then (1 : Int32) else (0 : Int32)) = 0 then a1 else (if (180 : Int32) ≤ a0 then a1 else (q_Ref_withSign a1 (32 : Int32)))), .int (if (a0 - a0 / (2 : Int32) * (2 : Int32)) = 0 then (1 : Int32) else (0 : Int32))]) (rest := []) hq hA hP hS (c_Ref_floating l A ad D cB cJ o r hne hA cd la lo hi re (q_Ref_format_wi (32 : Int32)) (q_Ref_format_fr (32 : Int32)) (q_Ref_format_bi (32 : Int32)) mi am we f N hf hI hre (if (if (a0 - a0 / (2 : Int32) * (2 : Int32)) = 0 then (1 : Int32) else (0 : Int32)) = 0 then a1 else (if (180 : Int32) ≤ a0 then a1 else (q_Ref_withSign a1 (32 : Int32)))) (if (a0 - a0 / (2 : Int32) * (2 : Int32)) = 0 then (1 : Int32) else (0 : Int32)) (fF (32 : Int32)) (fB (32 : Int32)) (fm_of (Or.inl rfl))) kB_Ref_floating wt_603 ⟨rfl, rfl, Nat.le_of_ble_eq_true rfl, Nat.le_of_ble_eq_true rfl⟩ rfl hl.1 rfl (Nat.le_of_ble_eq_true rfl) d_Ref_turnedInto_207 ⟨Nat.zero_le _, Nat.zero_le _⟩ (fun v9 fs9 f_159 H locs hk9 hP hS => ?_)
            obtain ⟨rfl, lo_159, hi_159, re_159, wi_159, fr_159, bi_159, mi_159, am_159, we_159, N_159, rfl, hre_159, hf_159, hI_159⟩ := hk9
            exact qr_l hq hr hk hP hS ⟨congrArg (fun z => some (Value.long z)) (by unfold q_Ref_turnedInto; exact (((if_neg c_2).trans ((if_neg c_95).trans ((if_neg c_98).trans ((if_pos c_143).trans ((if_neg c_144).trans ((if_neg c_146).trans ((if_neg c_148).trans ((if_neg c_152).trans ((if_pos c_156).trans rfl)))))))))).symm), _, _, _, _, _, _, _, _, _, _, (by rw [show q_Ref_turnedInto_cd cd a0 a1 = cd from by unfold q_Ref_turnedInto_cd; exact ((if_neg c_2).trans ((if_neg c_95).trans ((if_neg c_98).trans ((if_pos c_143).trans ((if_neg c_144).trans ((if_neg c_146).trans ((if_neg c_148).trans ((if_neg c_152).trans ((if_pos c_156).trans rfl)))))))))]; first | done | rfl), hre_159, hf_159, hI_159⟩ d_Ref_turnedInto_210
          by_cases c_160 : a0 = (181 : Int32)
          · refine lv_tableIn (tgt := 176) hx hb d_Ref_turnedInto_83 (by rw [c_160]; decide) (by rw [c_160]; decide) (by rw [c_160]; rfl) (by decide) ?_
            refine lv_aload_n hx hb d_Ref_turnedInto_176 rfl (lv_at hl 1 rfl) ?_
            refine lv_bipush (v := (32 : Int32)) hx hb d_Ref_turnedInto_177 (by decide) ?_
            refine rv_v (As := [.int (32 : Int32)]) (rest := []) hq hA hP hS (c_Ref_format l A ad D cB cJ o r hne hA cd la lo hi re wi fr bi mi am we f (32 : Int32)) kB_Ref_format wt_558 ⟨rfl, rfl, Nat.le_of_ble_eq_true rfl, Nat.le_of_ble_eq_true rfl⟩ rfl hl.1 rfl (Nat.le_of_ble_eq_true rfl) d_Ref_turnedInto_179 ⟨Nat.zero_le _, Nat.zero_le _⟩ (fun H locs hP hS => ?_)
            refine lv_aload_n hx hb d_Ref_turnedInto_182 rfl (lv_at hl 1 rfl) ?_
            refine lv_iload hx hb d_Ref_turnedInto_183 (lv_at hl 0 rfl) ?_
            refine jn_ (J := 205) (ls := ls) (v := .long (if (if (a0 - a0 / (2 : Int32) * (2 : Int32)) = 0 then (1 : Int32) else (0 : Int32)) = 0 then a1 else (if (180 : Int32) ≤ a0 then a1 else (q_Ref_withSign a1 (32 : Int32))))) (rest := [.ref o]) (fun hj => ?_) ?_
            · refine lv_if_eq (tgt := 204) hx hb d_Ref_turnedInto_185 (by decide) (fun c_161 => ?_) (fun c_161 => ?_)
              · refine lv_lload_n hx hb d_Ref_turnedInto_204 rfl (lv_at hl 3 rfl) ?_
                exact (by rw [if_pos c_161] at hj; exact hj)
              · refine lv_iload_n hx hb d_Ref_turnedInto_188 rfl (lv_at hl 2 rfl) ?_
                refine lv_sipush (v := (180 : Int32)) hx hb d_Ref_turnedInto_189 (by decide) ?_
                refine jn_ (J := 205) (ls := ls) (v := .long (if (180 : Int32) ≤ a0 then a1 else (q_Ref_withSign a1 (32 : Int32)))) (rest := [.ref o]) (fun hj => ?_) ?_
                · refine lv_icmp_ge (tgt := 204) hx hb d_Ref_turnedInto_192 (by decide) (fun c_162 => ?_) (fun c_162 => ?_)
                  · refine lv_lload_n hx hb d_Ref_turnedInto_204 rfl (lv_at hl 3 rfl) ?_
                    exact (by rw [if_pos c_162] at hj; exact hj)
                  · refine lv_lload_n hx hb d_Ref_turnedInto_195 rfl (lv_at hl 3 rfl) ?_
                    refine lv_bipush (v := (32 : Int32)) hx hb d_Ref_turnedInto_196 (by decide) ?_
                    refine hl_ (As := [.long a1, .int (32 : Int32)]) (rest := [.ref o]) hq hA hS (c_Ref_withSign l A ad a1 (32 : Int32)) kB_Ref_withSign wt_600 ⟨rfl, rfl, Nat.le_of_ble_eq_true rfl, Nat.le_of_ble_eq_true rfl⟩ rfl hl.1 rfl (Nat.le_of_ble_eq_true rfl) d_Ref_turnedInto_198 ⟨Nat.zero_le _, Nat.zero_le _⟩ ?_
                    refine lv_goto (tgt := 205) hx hb d_Ref_turnedInto_201 (by decide) ?_
                    exact (by rw [if_neg c_162] at hj; exact hj)
                exact (by rw [if_neg c_161] at hj; exact hj)
            refine lv_iload hx hb d_Ref_turnedInto_205 (lv_at hl 0 rfl) ?_
            refine rq_ (As := [.long (if (if (a0 - a0 / (2 : Int32) * (2 : Int32)) = 0 then (1 : Int32) else (0 : Int32)) = 0 then a1 else (if (180 : Int32) ≤ a0 then a1 else (q_Ref_withSign a1 (32 : Int32)))), .int (if (a0 - a0 / (2 : Int32) * (2 : Int32)) = 0 then (1 : Int32) else (0 : Int32))]) (rest := []) hq hA hP hS (c_Ref_floating l A ad D cB cJ o r hne hA cd la lo hi re (q_Ref_format_wi (32 : Int32)) (q_Ref_format_fr (32 : Int32)) (q_Ref_format_bi (32 : Int32)) mi am we f N hf hI hre (if (if (a0 - a0 / (2 : Int32) * (2 : Int32)) = 0 then (1 : Int32) else (0 : Int32)) = 0 then a1 else (if (180 : Int32) ≤ a0 then a1 else (q_Ref_withSign a1 (32 : Int32)))) (if (a0 - a0 / (2 : Int32) * (2 : Int32)) = 0 then (1 : Int32) else (0 : Int32)) (fF (32 : Int32)) (fB (32 : Int32)) (fm_of (Or.inl rfl))) kB_Ref_floating wt_603 ⟨rfl, rfl, Nat.le_of_ble_eq_true rfl, Nat.le_of_ble_eq_true rfl⟩ rfl hl.1 rfl (Nat.le_of_ble_eq_true rfl) d_Ref_turnedInto_207 ⟨Nat.zero_le _, Nat.zero_le _⟩ (fun v9 fs9 f_163 H locs hk9 hP hS => ?_)
            obtain ⟨rfl, lo_163, hi_163, re_163, wi_163, fr_163, bi_163, mi_163, am_163, we_163, N_163, rfl, hre_163, hf_163, hI_163⟩ := hk9
            exact qr_l hq hr hk hP hS ⟨congrArg (fun z => some (Value.long z)) (by unfold q_Ref_turnedInto; exact (((if_neg c_2).trans ((if_neg c_95).trans ((if_neg c_98).trans ((if_pos c_143).trans ((if_neg c_144).trans ((if_neg c_146).trans ((if_neg c_148).trans ((if_neg c_152).trans ((if_neg c_156).trans ((if_pos c_160).trans rfl))))))))))).symm), _, _, _, _, _, _, _, _, _, _, (by rw [show q_Ref_turnedInto_cd cd a0 a1 = cd from by unfold q_Ref_turnedInto_cd; exact ((if_neg c_2).trans ((if_neg c_95).trans ((if_neg c_98).trans ((if_pos c_143).trans ((if_neg c_144).trans ((if_neg c_146).trans ((if_neg c_148).trans ((if_neg c_152).trans ((if_neg c_156).trans ((if_pos c_160).trans rfl))))))))))]; first | done | rfl), hre_163, hf_163, hI_163⟩ d_Ref_turnedInto_210
          by_cases c_164 : a0 = (182 : Int32)
          · refine lv_tableIn (tgt := 249) hx hb d_Ref_turnedInto_83 (by rw [c_164]; decide) (by rw [c_164]; decide) (by rw [c_164]; rfl) (by decide) ?_
            refine lv_aload_n hx hb d_Ref_turnedInto_249 rfl (lv_at hl 1 rfl) ?_
            refine lv_iload_n hx hb d_Ref_turnedInto_250 rfl (lv_at hl 2 rfl) ?_
            refine lv_sipush (v := (182 : Int32)) hx hb d_Ref_turnedInto_251 (by decide) ?_
            refine jn_ (J := 264) (ls := ls) (v := .int (if a0 = (182 : Int32) then (64 : Int32) else (32 : Int32))) (rest := [.ref o]) (fun hj => ?_) ?_
            · refine lv_icmp_ne (tgt := 262) hx hb d_Ref_turnedInto_254 (by decide) (fun c_165 => ?_) (fun c_165 => ?_)
              · refine lv_bipush (v := (32 : Int32)) hx hb d_Ref_turnedInto_262 (by decide) ?_
                exact (by rw [if_neg c_165] at hj; exact hj)
              · refine lv_bipush (v := (64 : Int32)) hx hb d_Ref_turnedInto_257 (by decide) ?_
                refine lv_goto (tgt := 264) hx hb d_Ref_turnedInto_259 (by decide) ?_
                exact (by rw [if_pos c_165] at hj; exact hj)
            refine rv_v (As := [.int (if a0 = (182 : Int32) then (64 : Int32) else (32 : Int32))]) (rest := []) hq hA hP hS (c_Ref_format l A ad D cB cJ o r hne hA cd la lo hi re wi fr bi mi am we f (if a0 = (182 : Int32) then (64 : Int32) else (32 : Int32))) kB_Ref_format wt_558 ⟨rfl, rfl, Nat.le_of_ble_eq_true rfl, Nat.le_of_ble_eq_true rfl⟩ rfl hl.1 rfl (Nat.le_of_ble_eq_true rfl) d_Ref_turnedInto_264 ⟨Nat.zero_le _, Nat.zero_le _⟩ (fun H locs hP hS => ?_)
            refine lv_aload_n hx hb d_Ref_turnedInto_267 rfl (lv_at hl 1 rfl) ?_
            refine lv_lload_n hx hb d_Ref_turnedInto_268 rfl (lv_at hl 3 rfl) ?_
            refine lv_iload_n hx hb d_Ref_turnedInto_269 rfl (lv_at hl 2 rfl) ?_
            refine lv_sipush (v := (182 : Int32)) hx hb d_Ref_turnedInto_270 (by decide) ?_
            refine jn_ (J := 283) (ls := ls) (v := .int (if a0 = (182 : Int32) then (32 : Int32) else (64 : Int32))) (rest := [.long a1, .ref o]) (fun hj => ?_) ?_
            · refine lv_icmp_ne (tgt := 281) hx hb d_Ref_turnedInto_273 (by decide) (fun c_166 => ?_) (fun c_166 => ?_)
              · refine lv_bipush (v := (64 : Int32)) hx hb d_Ref_turnedInto_281 (by decide) ?_
                exact (by rw [if_neg c_166] at hj; exact hj)
              · refine lv_bipush (v := (32 : Int32)) hx hb d_Ref_turnedInto_276 (by decide) ?_
                refine lv_goto (tgt := 283) hx hb d_Ref_turnedInto_278 (by decide) ?_
                exact (by rw [if_pos c_166] at hj; exact hj)
            refine rq_ (As := [.long a1, .int (if a0 = (182 : Int32) then (32 : Int32) else (64 : Int32))]) (rest := []) hq hA hP hS (c_Ref_reformed l A ad D cB cJ o r hne hA cd la lo hi re (q_Ref_format_wi (if a0 = (182 : Int32) then (64 : Int32) else (32 : Int32))) (q_Ref_format_fr (if a0 = (182 : Int32) then (64 : Int32) else (32 : Int32))) (q_Ref_format_bi (if a0 = (182 : Int32) then (64 : Int32) else (32 : Int32))) mi am we f N hf hI hre a1 (if a0 = (182 : Int32) then (32 : Int32) else (64 : Int32)) (fF (if a0 = (182 : Int32) then (64 : Int32) else (32 : Int32))) (fB (if a0 = (182 : Int32) then (64 : Int32) else (32 : Int32))) (fm_of (by (repeat' split) <;> first | exact Or.inl rfl | exact Or.inr rfl)) (fF (if a0 = (182 : Int32) then (32 : Int32) else (64 : Int32))) (fB (if a0 = (182 : Int32) then (32 : Int32) else (64 : Int32))) (fm_of (by (repeat' split) <;> first | exact Or.inl rfl | exact Or.inr rfl))) kB_Ref_reformed wt_631 ⟨rfl, rfl, Nat.le_of_ble_eq_true rfl, Nat.le_of_ble_eq_true rfl⟩ rfl hl.1 rfl (Nat.le_of_ble_eq_true rfl) d_Ref_turnedInto_283 ⟨Nat.zero_le _, Nat.zero_le _⟩ (fun v9 fs9 f_167 H locs hk9 hP hS => ?_)
            obtain ⟨rfl, lo_167, hi_167, re_167, wi_167, fr_167, bi_167, mi_167, am_167, we_167, N_167, rfl, hre_167, hf_167, hI_167⟩ := hk9
            exact qr_l hq hr hk hP hS ⟨congrArg (fun z => some (Value.long z)) (by unfold q_Ref_turnedInto; exact (((if_neg c_2).trans ((if_neg c_95).trans ((if_neg c_98).trans ((if_pos c_143).trans ((if_neg c_144).trans ((if_neg c_146).trans ((if_neg c_148).trans ((if_neg c_152).trans ((if_neg c_156).trans ((if_neg c_160).trans ((if_pos c_164).trans rfl)))))))))))).symm), _, _, _, _, _, _, _, _, _, _, (by rw [show q_Ref_turnedInto_cd cd a0 a1 = cd from by unfold q_Ref_turnedInto_cd; exact ((if_neg c_2).trans ((if_neg c_95).trans ((if_neg c_98).trans ((if_pos c_143).trans ((if_neg c_144).trans ((if_neg c_146).trans ((if_neg c_148).trans ((if_neg c_152).trans ((if_neg c_156).trans ((if_neg c_160).trans ((if_pos c_164).trans rfl)))))))))))]; first | done | rfl), hre_167, hf_167, hI_167⟩ d_Ref_turnedInto_286
          by_cases c_168 : a0 = (183 : Int32)
          · refine lv_tableIn (tgt := 211) hx hb d_Ref_turnedInto_83 (by rw [c_168]; decide) (by rw [c_168]; decide) (by rw [c_168]; rfl) (by decide) ?_
            refine lv_aload_n hx hb d_Ref_turnedInto_211 rfl (lv_at hl 1 rfl) ?_
            refine lv_bipush (v := (64 : Int32)) hx hb d_Ref_turnedInto_212 (by decide) ?_
            refine rv_v (As := [.int (64 : Int32)]) (rest := []) hq hA hP hS (c_Ref_format l A ad D cB cJ o r hne hA cd la lo hi re wi fr bi mi am we f (64 : Int32)) kB_Ref_format wt_558 ⟨rfl, rfl, Nat.le_of_ble_eq_true rfl, Nat.le_of_ble_eq_true rfl⟩ rfl hl.1 rfl (Nat.le_of_ble_eq_true rfl) d_Ref_turnedInto_214 ⟨Nat.zero_le _, Nat.zero_le _⟩ (fun H locs hP hS => ?_)
            refine lv_aload_n hx hb d_Ref_turnedInto_217 rfl (lv_at hl 1 rfl) ?_
            refine lv_iload_n hx hb d_Ref_turnedInto_218 rfl (lv_at hl 2 rfl) ?_
            refine lv_sipush (v := (183 : Int32)) hx hb d_Ref_turnedInto_219 (by decide) ?_
            refine jn_ (J := 235) (ls := ls) (v := .long (if a0 = (183 : Int32) then (q_Ref_withSign a1 (32 : Int32)) else a1)) (rest := [.ref o]) (fun hj => ?_) ?_
            · refine lv_icmp_ne (tgt := 234) hx hb d_Ref_turnedInto_222 (by decide) (fun c_169 => ?_) (fun c_169 => ?_)
              · refine lv_lload_n hx hb d_Ref_turnedInto_234 rfl (lv_at hl 3 rfl) ?_
                exact (by rw [if_neg c_169] at hj; exact hj)
              · refine lv_lload_n hx hb d_Ref_turnedInto_225 rfl (lv_at hl 3 rfl) ?_
                refine lv_bipush (v := (32 : Int32)) hx hb d_Ref_turnedInto_226 (by decide) ?_
                refine hl_ (As := [.long a1, .int (32 : Int32)]) (rest := [.ref o]) hq hA hS (c_Ref_withSign l A ad a1 (32 : Int32)) kB_Ref_withSign wt_600 ⟨rfl, rfl, Nat.le_of_ble_eq_true rfl, Nat.le_of_ble_eq_true rfl⟩ rfl hl.1 rfl (Nat.le_of_ble_eq_true rfl) d_Ref_turnedInto_228 ⟨Nat.zero_le _, Nat.zero_le _⟩ ?_
                refine lv_goto (tgt := 235) hx hb d_Ref_turnedInto_231 (by decide) ?_
                exact (by rw [if_pos c_169] at hj; exact hj)
            refine lv_iload hx hb d_Ref_turnedInto_235 (lv_at hl 0 rfl) ?_
            refine jn_ (J := 245) (ls := ls) (v := .int (if (if (a0 - a0 / (2 : Int32) * (2 : Int32)) = 0 then (1 : Int32) else (0 : Int32)) = 0 then (1 : Int32) else (0 : Int32))) (rest := [.long (if a0 = (183 : Int32) then (q_Ref_withSign a1 (32 : Int32)) else a1), .ref o]) (fun hj => ?_) ?_
            · refine lv_if_ne (tgt := 244) hx hb d_Ref_turnedInto_237 (by decide) (fun c_170 => ?_) (fun c_170 => ?_)
              · refine lv_iconst (v := (0 : Int32)) hx hb d_Ref_turnedInto_244 (by decide) ?_
                exact (by rw [if_neg c_170] at hj; exact hj)
              · refine lv_iconst (v := (1 : Int32)) hx hb d_Ref_turnedInto_240 (by decide) ?_
                refine lv_goto (tgt := 245) hx hb d_Ref_turnedInto_241 (by decide) ?_
                exact (by rw [if_pos c_170] at hj; exact hj)
            refine rq_ (As := [.long (if a0 = (183 : Int32) then (q_Ref_withSign a1 (32 : Int32)) else a1), .int (if (if (a0 - a0 / (2 : Int32) * (2 : Int32)) = 0 then (1 : Int32) else (0 : Int32)) = 0 then (1 : Int32) else (0 : Int32))]) (rest := []) hq hA hP hS (c_Ref_floating l A ad D cB cJ o r hne hA cd la lo hi re (q_Ref_format_wi (64 : Int32)) (q_Ref_format_fr (64 : Int32)) (q_Ref_format_bi (64 : Int32)) mi am we f N hf hI hre (if a0 = (183 : Int32) then (q_Ref_withSign a1 (32 : Int32)) else a1) (if (if (a0 - a0 / (2 : Int32) * (2 : Int32)) = 0 then (1 : Int32) else (0 : Int32)) = 0 then (1 : Int32) else (0 : Int32)) (fF (64 : Int32)) (fB (64 : Int32)) (fm_of (Or.inr rfl))) kB_Ref_floating wt_603 ⟨rfl, rfl, Nat.le_of_ble_eq_true rfl, Nat.le_of_ble_eq_true rfl⟩ rfl hl.1 rfl (Nat.le_of_ble_eq_true rfl) d_Ref_turnedInto_245 ⟨Nat.zero_le _, Nat.zero_le _⟩ (fun v9 fs9 f_171 H locs hk9 hP hS => ?_)
            obtain ⟨rfl, lo_171, hi_171, re_171, wi_171, fr_171, bi_171, mi_171, am_171, we_171, N_171, rfl, hre_171, hf_171, hI_171⟩ := hk9
            exact qr_l hq hr hk hP hS ⟨congrArg (fun z => some (Value.long z)) (by unfold q_Ref_turnedInto; exact (((if_neg c_2).trans ((if_neg c_95).trans ((if_neg c_98).trans ((if_pos c_143).trans ((if_neg c_144).trans ((if_neg c_146).trans ((if_neg c_148).trans ((if_neg c_152).trans ((if_neg c_156).trans ((if_neg c_160).trans ((if_neg c_164).trans ((if_pos c_168).trans rfl))))))))))))).symm), _, _, _, _, _, _, _, _, _, _, (by rw [show q_Ref_turnedInto_cd cd a0 a1 = cd from by unfold q_Ref_turnedInto_cd; exact ((if_neg c_2).trans ((if_neg c_95).trans ((if_neg c_98).trans ((if_pos c_143).trans ((if_neg c_144).trans ((if_neg c_146).trans ((if_neg c_148).trans ((if_neg c_152).trans ((if_neg c_156).trans ((if_neg c_160).trans ((if_neg c_164).trans ((if_pos c_168).trans rfl))))))))))))]; first | done | rfl), hre_171, hf_171, hI_171⟩ d_Ref_turnedInto_248
          by_cases c_172 : a0 = (184 : Int32)
          · refine lv_tableIn (tgt := 211) hx hb d_Ref_turnedInto_83 (by rw [c_172]; decide) (by rw [c_172]; decide) (by rw [c_172]; rfl) (by decide) ?_
            refine lv_aload_n hx hb d_Ref_turnedInto_211 rfl (lv_at hl 1 rfl) ?_
            refine lv_bipush (v := (64 : Int32)) hx hb d_Ref_turnedInto_212 (by decide) ?_
            refine rv_v (As := [.int (64 : Int32)]) (rest := []) hq hA hP hS (c_Ref_format l A ad D cB cJ o r hne hA cd la lo hi re wi fr bi mi am we f (64 : Int32)) kB_Ref_format wt_558 ⟨rfl, rfl, Nat.le_of_ble_eq_true rfl, Nat.le_of_ble_eq_true rfl⟩ rfl hl.1 rfl (Nat.le_of_ble_eq_true rfl) d_Ref_turnedInto_214 ⟨Nat.zero_le _, Nat.zero_le _⟩ (fun H locs hP hS => ?_)
            refine lv_aload_n hx hb d_Ref_turnedInto_217 rfl (lv_at hl 1 rfl) ?_
            refine lv_iload_n hx hb d_Ref_turnedInto_218 rfl (lv_at hl 2 rfl) ?_
            refine lv_sipush (v := (183 : Int32)) hx hb d_Ref_turnedInto_219 (by decide) ?_
            refine jn_ (J := 235) (ls := ls) (v := .long (if a0 = (183 : Int32) then (q_Ref_withSign a1 (32 : Int32)) else a1)) (rest := [.ref o]) (fun hj => ?_) ?_
            · refine lv_icmp_ne (tgt := 234) hx hb d_Ref_turnedInto_222 (by decide) (fun c_173 => ?_) (fun c_173 => ?_)
              · refine lv_lload_n hx hb d_Ref_turnedInto_234 rfl (lv_at hl 3 rfl) ?_
                exact (by rw [if_neg c_173] at hj; exact hj)
              · refine lv_lload_n hx hb d_Ref_turnedInto_225 rfl (lv_at hl 3 rfl) ?_
                refine lv_bipush (v := (32 : Int32)) hx hb d_Ref_turnedInto_226 (by decide) ?_
                refine hl_ (As := [.long a1, .int (32 : Int32)]) (rest := [.ref o]) hq hA hS (c_Ref_withSign l A ad a1 (32 : Int32)) kB_Ref_withSign wt_600 ⟨rfl, rfl, Nat.le_of_ble_eq_true rfl, Nat.le_of_ble_eq_true rfl⟩ rfl hl.1 rfl (Nat.le_of_ble_eq_true rfl) d_Ref_turnedInto_228 ⟨Nat.zero_le _, Nat.zero_le _⟩ ?_
                refine lv_goto (tgt := 235) hx hb d_Ref_turnedInto_231 (by decide) ?_
                exact (by rw [if_pos c_173] at hj; exact hj)
            refine lv_iload hx hb d_Ref_turnedInto_235 (lv_at hl 0 rfl) ?_
            refine jn_ (J := 245) (ls := ls) (v := .int (if (if (a0 - a0 / (2 : Int32) * (2 : Int32)) = 0 then (1 : Int32) else (0 : Int32)) = 0 then (1 : Int32) else (0 : Int32))) (rest := [.long (if a0 = (183 : Int32) then (q_Ref_withSign a1 (32 : Int32)) else a1), .ref o]) (fun hj => ?_) ?_
            · refine lv_if_ne (tgt := 244) hx hb d_Ref_turnedInto_237 (by decide) (fun c_174 => ?_) (fun c_174 => ?_)
              · refine lv_iconst (v := (0 : Int32)) hx hb d_Ref_turnedInto_244 (by decide) ?_
                exact (by rw [if_neg c_174] at hj; exact hj)
              · refine lv_iconst (v := (1 : Int32)) hx hb d_Ref_turnedInto_240 (by decide) ?_
                refine lv_goto (tgt := 245) hx hb d_Ref_turnedInto_241 (by decide) ?_
                exact (by rw [if_pos c_174] at hj; exact hj)
            refine rq_ (As := [.long (if a0 = (183 : Int32) then (q_Ref_withSign a1 (32 : Int32)) else a1), .int (if (if (a0 - a0 / (2 : Int32) * (2 : Int32)) = 0 then (1 : Int32) else (0 : Int32)) = 0 then (1 : Int32) else (0 : Int32))]) (rest := []) hq hA hP hS (c_Ref_floating l A ad D cB cJ o r hne hA cd la lo hi re (q_Ref_format_wi (64 : Int32)) (q_Ref_format_fr (64 : Int32)) (q_Ref_format_bi (64 : Int32)) mi am we f N hf hI hre (if a0 = (183 : Int32) then (q_Ref_withSign a1 (32 : Int32)) else a1) (if (if (a0 - a0 / (2 : Int32) * (2 : Int32)) = 0 then (1 : Int32) else (0 : Int32)) = 0 then (1 : Int32) else (0 : Int32)) (fF (64 : Int32)) (fB (64 : Int32)) (fm_of (Or.inr rfl))) kB_Ref_floating wt_603 ⟨rfl, rfl, Nat.le_of_ble_eq_true rfl, Nat.le_of_ble_eq_true rfl⟩ rfl hl.1 rfl (Nat.le_of_ble_eq_true rfl) d_Ref_turnedInto_245 ⟨Nat.zero_le _, Nat.zero_le _⟩ (fun v9 fs9 f_175 H locs hk9 hP hS => ?_)
            obtain ⟨rfl, lo_175, hi_175, re_175, wi_175, fr_175, bi_175, mi_175, am_175, we_175, N_175, rfl, hre_175, hf_175, hI_175⟩ := hk9
            exact qr_l hq hr hk hP hS ⟨congrArg (fun z => some (Value.long z)) (by unfold q_Ref_turnedInto; exact (((if_neg c_2).trans ((if_neg c_95).trans ((if_neg c_98).trans ((if_pos c_143).trans ((if_neg c_144).trans ((if_neg c_146).trans ((if_neg c_148).trans ((if_neg c_152).trans ((if_neg c_156).trans ((if_neg c_160).trans ((if_neg c_164).trans ((if_neg c_168).trans ((if_pos c_172).trans rfl)))))))))))))).symm), _, _, _, _, _, _, _, _, _, _, (by rw [show q_Ref_turnedInto_cd cd a0 a1 = cd from by unfold q_Ref_turnedInto_cd; exact ((if_neg c_2).trans ((if_neg c_95).trans ((if_neg c_98).trans ((if_pos c_143).trans ((if_neg c_144).trans ((if_neg c_146).trans ((if_neg c_148).trans ((if_neg c_152).trans ((if_neg c_156).trans ((if_neg c_160).trans ((if_neg c_164).trans ((if_neg c_168).trans ((if_pos c_172).trans rfl)))))))))))))]; first | done | rfl), hre_175, hf_175, hI_175⟩ d_Ref_turnedInto_248
          by_cases c_176 : a0 = (185 : Int32)
          · refine lv_tableIn (tgt := 211) hx hb d_Ref_turnedInto_83 (by rw [c_176]; decide) (by rw [c_176]; decide) (by rw [c_176]; rfl) (by decide) ?_
            refine lv_aload_n hx hb d_Ref_turnedInto_211 rfl (lv_at hl 1 rfl) ?_
            refine lv_bipush (v := (64 : Int32)) hx hb d_Ref_turnedInto_212 (by decide) ?_
            refine rv_v (As := [.int (64 : Int32)]) (rest := []) hq hA hP hS (c_Ref_format l A ad D cB cJ o r hne hA cd la lo hi re wi fr bi mi am we f (64 : Int32)) kB_Ref_format wt_558 ⟨rfl, rfl, Nat.le_of_ble_eq_true rfl, Nat.le_of_ble_eq_true rfl⟩ rfl hl.1 rfl (Nat.le_of_ble_eq_true rfl) d_Ref_turnedInto_214 ⟨Nat.zero_le _, Nat.zero_le _⟩ (fun H locs hP hS => ?_)
            refine lv_aload_n hx hb d_Ref_turnedInto_217 rfl (lv_at hl 1 rfl) ?_
            refine lv_iload_n hx hb d_Ref_turnedInto_218 rfl (lv_at hl 2 rfl) ?_
            refine lv_sipush (v := (183 : Int32)) hx hb d_Ref_turnedInto_219 (by decide) ?_
            refine jn_ (J := 235) (ls := ls) (v := .long (if a0 = (183 : Int32) then (q_Ref_withSign a1 (32 : Int32)) else a1)) (rest := [.ref o]) (fun hj => ?_) ?_
            · refine lv_icmp_ne (tgt := 234) hx hb d_Ref_turnedInto_222 (by decide) (fun c_177 => ?_) (fun c_177 => ?_)
              · refine lv_lload_n hx hb d_Ref_turnedInto_234 rfl (lv_at hl 3 rfl) ?_
                exact (by rw [if_neg c_177] at hj; exact hj)
              · refine lv_lload_n hx hb d_Ref_turnedInto_225 rfl (lv_at hl 3 rfl) ?_
                refine lv_bipush (v := (32 : Int32)) hx hb d_Ref_turnedInto_226 (by decide) ?_
                refine hl_ (As := [.long a1, .int (32 : Int32)]) (rest := [.ref o]) hq hA hS (c_Ref_withSign l A ad a1 (32 : Int32)) kB_Ref_withSign wt_600 ⟨rfl, rfl, Nat.le_of_ble_eq_true rfl, Nat.le_of_ble_eq_true rfl⟩ rfl hl.1 rfl (Nat.le_of_ble_eq_true rfl) d_Ref_turnedInto_228 ⟨Nat.zero_le _, Nat.zero_le _⟩ ?_
                refine lv_goto (tgt := 235) hx hb d_Ref_turnedInto_231 (by decide) ?_
                exact (by rw [if_pos c_177] at hj; exact hj)
            refine lv_iload hx hb d_Ref_turnedInto_235 (lv_at hl 0 rfl) ?_
            refine jn_ (J := 245) (ls := ls) (v := .int (if (if (a0 - a0 / (2 : Int32) * (2 : Int32)) = 0 then (1 : Int32) else (0 : Int32)) = 0 then (1 : Int32) else (0 : Int32))) (rest := [.long (if a0 = (183 : Int32) then (q_Ref_withSign a1 (32 : Int32)) else a1), .ref o]) (fun hj => ?_) ?_
            · refine lv_if_ne (tgt := 244) hx hb d_Ref_turnedInto_237 (by decide) (fun c_178 => ?_) (fun c_178 => ?_)
              · refine lv_iconst (v := (0 : Int32)) hx hb d_Ref_turnedInto_244 (by decide) ?_
                exact (by rw [if_neg c_178] at hj; exact hj)
              · refine lv_iconst (v := (1 : Int32)) hx hb d_Ref_turnedInto_240 (by decide) ?_
                refine lv_goto (tgt := 245) hx hb d_Ref_turnedInto_241 (by decide) ?_
                exact (by rw [if_pos c_178] at hj; exact hj)
            refine rq_ (As := [.long (if a0 = (183 : Int32) then (q_Ref_withSign a1 (32 : Int32)) else a1), .int (if (if (a0 - a0 / (2 : Int32) * (2 : Int32)) = 0 then (1 : Int32) else (0 : Int32)) = 0 then (1 : Int32) else (0 : Int32))]) (rest := []) hq hA hP hS (c_Ref_floating l A ad D cB cJ o r hne hA cd la lo hi re (q_Ref_format_wi (64 : Int32)) (q_Ref_format_fr (64 : Int32)) (q_Ref_format_bi (64 : Int32)) mi am we f N hf hI hre (if a0 = (183 : Int32) then (q_Ref_withSign a1 (32 : Int32)) else a1) (if (if (a0 - a0 / (2 : Int32) * (2 : Int32)) = 0 then (1 : Int32) else (0 : Int32)) = 0 then (1 : Int32) else (0 : Int32)) (fF (64 : Int32)) (fB (64 : Int32)) (fm_of (Or.inr rfl))) kB_Ref_floating wt_603 ⟨rfl, rfl, Nat.le_of_ble_eq_true rfl, Nat.le_of_ble_eq_true rfl⟩ rfl hl.1 rfl (Nat.le_of_ble_eq_true rfl) d_Ref_turnedInto_245 ⟨Nat.zero_le _, Nat.zero_le _⟩ (fun v9 fs9 f_179 H locs hk9 hP hS => ?_)
            obtain ⟨rfl, lo_179, hi_179, re_179, wi_179, fr_179, bi_179, mi_179, am_179, we_179, N_179, rfl, hre_179, hf_179, hI_179⟩ := hk9
            exact qr_l hq hr hk hP hS ⟨congrArg (fun z => some (Value.long z)) (by unfold q_Ref_turnedInto; exact (((if_neg c_2).trans ((if_neg c_95).trans ((if_neg c_98).trans ((if_pos c_143).trans ((if_neg c_144).trans ((if_neg c_146).trans ((if_neg c_148).trans ((if_neg c_152).trans ((if_neg c_156).trans ((if_neg c_160).trans ((if_neg c_164).trans ((if_neg c_168).trans ((if_neg c_172).trans ((if_pos c_176).trans rfl))))))))))))))).symm), _, _, _, _, _, _, _, _, _, _, (by rw [show q_Ref_turnedInto_cd cd a0 a1 = cd from by unfold q_Ref_turnedInto_cd; exact ((if_neg c_2).trans ((if_neg c_95).trans ((if_neg c_98).trans ((if_pos c_143).trans ((if_neg c_144).trans ((if_neg c_146).trans ((if_neg c_148).trans ((if_neg c_152).trans ((if_neg c_156).trans ((if_neg c_160).trans ((if_neg c_164).trans ((if_neg c_168).trans ((if_neg c_172).trans ((if_pos c_176).trans rfl))))))))))))))]; first | done | rfl), hre_179, hf_179, hI_179⟩ d_Ref_turnedInto_248
          by_cases c_180 : a0 = (186 : Int32)
          · refine lv_tableIn (tgt := 211) hx hb d_Ref_turnedInto_83 (by rw [c_180]; decide) (by rw [c_180]; decide) (by rw [c_180]; rfl) (by decide) ?_
            refine lv_aload_n hx hb d_Ref_turnedInto_211 rfl (lv_at hl 1 rfl) ?_
            refine lv_bipush (v := (64 : Int32)) hx hb d_Ref_turnedInto_212 (by decide) ?_
            refine rv_v (As := [.int (64 : Int32)]) (rest := []) hq hA hP hS (c_Ref_format l A ad D cB cJ o r hne hA cd la lo hi re wi fr bi mi am we f (64 : Int32)) kB_Ref_format wt_558 ⟨rfl, rfl, Nat.le_of_ble_eq_true rfl, Nat.le_of_ble_eq_true rfl⟩ rfl hl.1 rfl (Nat.le_of_ble_eq_true rfl) d_Ref_turnedInto_214 ⟨Nat.zero_le _, Nat.zero_le _⟩ (fun H locs hP hS => ?_)
            refine lv_aload_n hx hb d_Ref_turnedInto_217 rfl (lv_at hl 1 rfl) ?_
            refine lv_iload_n hx hb d_Ref_turnedInto_218 rfl (lv_at hl 2 rfl) ?_
            refine lv_sipush (v := (183 : Int32)) hx hb d_Ref_turnedInto_219 (by decide) ?_
            refine jn_ (J := 235) (ls := ls) (v := .long (if a0 = (183 : Int32) then (q_Ref_withSign a1 (32 : Int32)) else a1)) (rest := [.ref o]) (fun hj => ?_) ?_
            · refine lv_icmp_ne (tgt := 234) hx hb d_Ref_turnedInto_222 (by decide) (fun c_181 => ?_) (fun c_181 => ?_)
              · refine lv_lload_n hx hb d_Ref_turnedInto_234 rfl (lv_at hl 3 rfl) ?_
                exact (by rw [if_neg c_181] at hj; exact hj)
              · refine lv_lload_n hx hb d_Ref_turnedInto_225 rfl (lv_at hl 3 rfl) ?_
                refine lv_bipush (v := (32 : Int32)) hx hb d_Ref_turnedInto_226 (by decide) ?_
                refine hl_ (As := [.long a1, .int (32 : Int32)]) (rest := [.ref o]) hq hA hS (c_Ref_withSign l A ad a1 (32 : Int32)) kB_Ref_withSign wt_600 ⟨rfl, rfl, Nat.le_of_ble_eq_true rfl, Nat.le_of_ble_eq_true rfl⟩ rfl hl.1 rfl (Nat.le_of_ble_eq_true rfl) d_Ref_turnedInto_228 ⟨Nat.zero_le _, Nat.zero_le _⟩ ?_
                refine lv_goto (tgt := 235) hx hb d_Ref_turnedInto_231 (by decide) ?_
                exact (by rw [if_pos c_181] at hj; exact hj)
            refine lv_iload hx hb d_Ref_turnedInto_235 (lv_at hl 0 rfl) ?_
            refine jn_ (J := 245) (ls := ls) (v := .int (if (if (a0 - a0 / (2 : Int32) * (2 : Int32)) = 0 then (1 : Int32) else (0 : Int32)) = 0 then (1 : Int32) else (0 : Int32))) (rest := [.long (if a0 = (183 : Int32) then (q_Ref_withSign a1 (32 : Int32)) else a1), .ref o]) (fun hj => ?_) ?_
            · refine lv_if_ne (tgt := 244) hx hb d_Ref_turnedInto_237 (by decide) (fun c_182 => ?_) (fun c_182 => ?_)
              · refine lv_iconst (v := (0 : Int32)) hx hb d_Ref_turnedInto_244 (by decide) ?_
                exact (by rw [if_neg c_182] at hj; exact hj)
              · refine lv_iconst (v := (1 : Int32)) hx hb d_Ref_turnedInto_240 (by decide) ?_
                refine lv_goto (tgt := 245) hx hb d_Ref_turnedInto_241 (by decide) ?_
                exact (by rw [if_pos c_182] at hj; exact hj)
            refine rq_ (As := [.long (if a0 = (183 : Int32) then (q_Ref_withSign a1 (32 : Int32)) else a1), .int (if (if (a0 - a0 / (2 : Int32) * (2 : Int32)) = 0 then (1 : Int32) else (0 : Int32)) = 0 then (1 : Int32) else (0 : Int32))]) (rest := []) hq hA hP hS (c_Ref_floating l A ad D cB cJ o r hne hA cd la lo hi re (q_Ref_format_wi (64 : Int32)) (q_Ref_format_fr (64 : Int32)) (q_Ref_format_bi (64 : Int32)) mi am we f N hf hI hre (if a0 = (183 : Int32) then (q_Ref_withSign a1 (32 : Int32)) else a1) (if (if (a0 - a0 / (2 : Int32) * (2 : Int32)) = 0 then (1 : Int32) else (0 : Int32)) = 0 then (1 : Int32) else (0 : Int32)) (fF (64 : Int32)) (fB (64 : Int32)) (fm_of (Or.inr rfl))) kB_Ref_floating wt_603 ⟨rfl, rfl, Nat.le_of_ble_eq_true rfl, Nat.le_of_ble_eq_true rfl⟩ rfl hl.1 rfl (Nat.le_of_ble_eq_true rfl) d_Ref_turnedInto_245 ⟨Nat.zero_le _, Nat.zero_le _⟩ (fun v9 fs9 f_183 H locs hk9 hP hS => ?_)
            obtain ⟨rfl, lo_183, hi_183, re_183, wi_183, fr_183, bi_183, mi_183, am_183, we_183, N_183, rfl, hre_183, hf_183, hI_183⟩ := hk9
            exact qr_l hq hr hk hP hS ⟨congrArg (fun z => some (Value.long z)) (by unfold q_Ref_turnedInto; exact (((if_neg c_2).trans ((if_neg c_95).trans ((if_neg c_98).trans ((if_pos c_143).trans ((if_neg c_144).trans ((if_neg c_146).trans ((if_neg c_148).trans ((if_neg c_152).trans ((if_neg c_156).trans ((if_neg c_160).trans ((if_neg c_164).trans ((if_neg c_168).trans ((if_neg c_172).trans ((if_neg c_176).trans ((if_pos c_180).trans rfl)))))))))))))))).symm), _, _, _, _, _, _, _, _, _, _, (by rw [show q_Ref_turnedInto_cd cd a0 a1 = cd from by unfold q_Ref_turnedInto_cd; exact ((if_neg c_2).trans ((if_neg c_95).trans ((if_neg c_98).trans ((if_pos c_143).trans ((if_neg c_144).trans ((if_neg c_146).trans ((if_neg c_148).trans ((if_neg c_152).trans ((if_neg c_156).trans ((if_neg c_160).trans ((if_neg c_164).trans ((if_neg c_168).trans ((if_neg c_172).trans ((if_neg c_176).trans ((if_pos c_180).trans rfl)))))))))))))))]; first | done | rfl), hre_183, hf_183, hI_183⟩ d_Ref_turnedInto_248
          by_cases c_184 : a0 = (187 : Int32)
          · refine lv_tableIn (tgt := 249) hx hb d_Ref_turnedInto_83 (by rw [c_184]; decide) (by rw [c_184]; decide) (by rw [c_184]; rfl) (by decide) ?_
            refine lv_aload_n hx hb d_Ref_turnedInto_249 rfl (lv_at hl 1 rfl) ?_
            refine lv_iload_n hx hb d_Ref_turnedInto_250 rfl (lv_at hl 2 rfl) ?_
            refine lv_sipush (v := (182 : Int32)) hx hb d_Ref_turnedInto_251 (by decide) ?_
            refine jn_ (J := 264) (ls := ls) (v := .int (if a0 = (182 : Int32) then (64 : Int32) else (32 : Int32))) (rest := [.ref o]) (fun hj => ?_) ?_
            · refine lv_icmp_ne (tgt := 262) hx hb d_Ref_turnedInto_254 (by decide) (fun c_185 => ?_) (fun c_185 => ?_)
              · refine lv_bipush (v := (32 : Int32)) hx hb d_Ref_turnedInto_262 (by decide) ?_
                exact (by rw [if_neg c_185] at hj; exact hj)
              · refine lv_bipush (v := (64 : Int32)) hx hb d_Ref_turnedInto_257 (by decide) ?_
                refine lv_goto (tgt := 264) hx hb d_Ref_turnedInto_259 (by decide) ?_
                exact (by rw [if_pos c_185] at hj; exact hj)
            refine rv_v (As := [.int (if a0 = (182 : Int32) then (64 : Int32) else (32 : Int32))]) (rest := []) hq hA hP hS (c_Ref_format l A ad D cB cJ o r hne hA cd la lo hi re wi fr bi mi am we f (if a0 = (182 : Int32) then (64 : Int32) else (32 : Int32))) kB_Ref_format wt_558 ⟨rfl, rfl, Nat.le_of_ble_eq_true rfl, Nat.le_of_ble_eq_true rfl⟩ rfl hl.1 rfl (Nat.le_of_ble_eq_true rfl) d_Ref_turnedInto_264 ⟨Nat.zero_le _, Nat.zero_le _⟩ (fun H locs hP hS => ?_)
            refine lv_aload_n hx hb d_Ref_turnedInto_267 rfl (lv_at hl 1 rfl) ?_
            refine lv_lload_n hx hb d_Ref_turnedInto_268 rfl (lv_at hl 3 rfl) ?_
            refine lv_iload_n hx hb d_Ref_turnedInto_269 rfl (lv_at hl 2 rfl) ?_
            refine lv_sipush (v := (182 : Int32)) hx hb d_Ref_turnedInto_270 (by decide) ?_
            refine jn_ (J := 283) (ls := ls) (v := .int (if a0 = (182 : Int32) then (32 : Int32) else (64 : Int32))) (rest := [.long a1, .ref o]) (fun hj => ?_) ?_
            · refine lv_icmp_ne (tgt := 281) hx hb d_Ref_turnedInto_273 (by decide) (fun c_186 => ?_) (fun c_186 => ?_)
              · refine lv_bipush (v := (64 : Int32)) hx hb d_Ref_turnedInto_281 (by decide) ?_
                exact (by rw [if_neg c_186] at hj; exact hj)
              · refine lv_bipush (v := (32 : Int32)) hx hb d_Ref_turnedInto_276 (by decide) ?_
                refine lv_goto (tgt := 283) hx hb d_Ref_turnedInto_278 (by decide) ?_
                exact (by rw [if_pos c_186] at hj; exact hj)
            refine rq_ (As := [.long a1, .int (if a0 = (182 : Int32) then (32 : Int32) else (64 : Int32))]) (rest := []) hq hA hP hS (c_Ref_reformed l A ad D cB cJ o r hne hA cd la lo hi re (q_Ref_format_wi (if a0 = (182 : Int32) then (64 : Int32) else (32 : Int32))) (q_Ref_format_fr (if a0 = (182 : Int32) then (64 : Int32) else (32 : Int32))) (q_Ref_format_bi (if a0 = (182 : Int32) then (64 : Int32) else (32 : Int32))) mi am we f N hf hI hre a1 (if a0 = (182 : Int32) then (32 : Int32) else (64 : Int32)) (fF (if a0 = (182 : Int32) then (64 : Int32) else (32 : Int32))) (fB (if a0 = (182 : Int32) then (64 : Int32) else (32 : Int32))) (fm_of (by (repeat' split) <;> first | exact Or.inl rfl | exact Or.inr rfl)) (fF (if a0 = (182 : Int32) then (32 : Int32) else (64 : Int32))) (fB (if a0 = (182 : Int32) then (32 : Int32) else (64 : Int32))) (fm_of (by (repeat' split) <;> first | exact Or.inl rfl | exact Or.inr rfl))) kB_Ref_reformed wt_631 ⟨rfl, rfl, Nat.le_of_ble_eq_true rfl, Nat.le_of_ble_eq_true rfl⟩ rfl hl.1 rfl (Nat.le_of_ble_eq_true rfl) d_Ref_turnedInto_283 ⟨Nat.zero_le _, Nat.zero_le _⟩ (fun v9 fs9 f_187 H locs hk9 hP hS => ?_)
            obtain ⟨rfl, lo_187, hi_187, re_187, wi_187, fr_187, bi_187, mi_187, am_187, we_187, N_187, rfl, hre_187, hf_187, hI_187⟩ := hk9
            exact qr_l hq hr hk hP hS ⟨congrArg (fun z => some (Value.long z)) (by unfold q_Ref_turnedInto; exact (((if_neg c_2).trans ((if_neg c_95).trans ((if_neg c_98).trans ((if_pos c_143).trans ((if_neg c_144).trans ((if_neg c_146).trans ((if_neg c_148).trans ((if_neg c_152).trans ((if_neg c_156).trans ((if_neg c_160).trans ((if_neg c_164).trans ((if_neg c_168).trans ((if_neg c_172).trans ((if_neg c_176).trans ((if_neg c_180).trans ((if_pos c_184).trans rfl))))))))))))))))).symm), _, _, _, _, _, _, _, _, _, _, (by rw [show q_Ref_turnedInto_cd cd a0 a1 = cd from by unfold q_Ref_turnedInto_cd; exact ((if_neg c_2).trans ((if_neg c_95).trans ((if_neg c_98).trans ((if_pos c_143).trans ((if_neg c_144).trans ((if_neg c_146).trans ((if_neg c_148).trans ((if_neg c_152).trans ((if_neg c_156).trans ((if_neg c_160).trans ((if_neg c_164).trans ((if_neg c_168).trans ((if_neg c_172).trans ((if_neg c_176).trans ((if_neg c_180).trans ((if_pos c_184).trans rfl))))))))))))))))]; first | done | rfl), hre_187, hf_187, hI_187⟩ d_Ref_turnedInto_286
          have hsw : a0.toInt < 172 ∨ 187 < a0.toInt ∨ a0.toInt = 174 ∨ a0.toInt = 175 ∨ a0.toInt = 176 ∨ a0.toInt = 177 := by
            have := lv_neT c_144 (a := 172) (by decide)
            have := lv_neT c_146 (a := 173) (by decide)
            have := lv_neT c_148 (a := 178) (by decide)
            have := lv_neT c_152 (a := 179) (by decide)
            have := lv_neT c_156 (a := 180) (by decide)
            have := lv_neT c_160 (a := 181) (by decide)
            have := lv_neT c_164 (a := 182) (by decide)
            have := lv_neT c_168 (a := 183) (by decide)
            have := lv_neT c_172 (a := 184) (by decide)
            have := lv_neT c_176 (a := 185) (by decide)
            have := lv_neT c_180 (a := 186) (by decide)
            have := lv_neT c_184 (a := 187) (by decide)
            omega
          have hs2 : a0.toInt < 172 ∨ 187 < a0.toInt ∨ (¬ a0.toInt < 172 ∧ ¬ 187 < a0.toInt ∧ (#[77, 77, 204, 204, 204, 204, 93, 93, 93, 93, 166, 128, 128, 128, 128, 166] : Array Int)[(a0.toInt - 172).toNat]? = some 204) := by
            rcases hsw with h9 | h9 | h9 | h9 | h9 | h9
            · exact Or.inl h9
            · exact Or.inr (Or.inl h9)
            all_goals exact Or.inr (Or.inr ⟨by rw [h9]; decide, by rw [h9]; decide, by rw [h9] <;> rfl⟩)
          refine tb_dflt (tgt := 287) hx hb d_Ref_turnedInto_83 hs2 (by decide) ?_
          refine lv_lload_n hx hb d_Ref_turnedInto_287 rfl (lv_at hl 3 rfl) ?_
          exact qr_l hq hr hk hP hS ⟨congrArg (fun z => some (Value.long z)) (by unfold q_Ref_turnedInto; exact (((if_neg c_2).trans ((if_neg c_95).trans ((if_neg c_98).trans ((if_pos c_143).trans ((if_neg c_144).trans ((if_neg c_146).trans ((if_neg c_148).trans ((if_neg c_152).trans ((if_neg c_156).trans ((if_neg c_160).trans ((if_neg c_164).trans ((if_neg c_168).trans ((if_neg c_172).trans ((if_neg c_176).trans ((if_neg c_180).trans ((if_neg c_184).trans rfl))))))))))))))))).symm), _, _, _, _, _, _, _, _, _, _, (by rw [show q_Ref_turnedInto_cd cd a0 a1 = cd from by unfold q_Ref_turnedInto_cd; exact ((if_neg c_2).trans ((if_neg c_95).trans ((if_neg c_98).trans ((if_pos c_143).trans ((if_neg c_144).trans ((if_neg c_146).trans ((if_neg c_148).trans ((if_neg c_152).trans ((if_neg c_156).trans ((if_neg c_160).trans ((if_neg c_164).trans ((if_neg c_168).trans ((if_neg c_172).trans ((if_neg c_176).trans ((if_neg c_180).trans ((if_neg c_184).trans rfl))))))))))))))))]; first | done | rfl), hre, hf, hI⟩ d_Ref_turnedInto_288
        · refine lv_aload_n hx hb d_Ref_turnedInto_41 rfl (lv_at hl 1 rfl) ?_
          refine lv_iload_n hx hb d_Ref_turnedInto_42 rfl (lv_at hl 2 rfl) ?_
          refine hi_ (As := [.int a0]) (rest := [.ref o]) hq hA hS (c_Ref_first l A ad a0) kB_Ref_first wt_539 ⟨rfl, rfl, Nat.le_of_ble_eq_true rfl, Nat.le_of_ble_eq_true rfl⟩ rfl hl.1 rfl (Nat.le_of_ble_eq_true rfl) d_Ref_turnedInto_43 ⟨Nat.zero_le _, Nat.zero_le _⟩ ?_
          refine lv_iconst (v := (2 : Int32)) hx hb d_Ref_turnedInto_46 (by decide) ?_
          refine jn_ (J := 57) (ls := ls) (v := .int (if (q_Ref_first a0) = (2 : Int32) then (32 : Int32) else (64 : Int32))) (rest := [.ref o]) (fun hj => ?_) ?_
          · refine lv_icmp_ne (tgt := 55) hx hb d_Ref_turnedInto_47 (by decide) (fun c_188 => ?_) (fun c_188 => ?_)
            · refine lv_bipush (v := (64 : Int32)) hx hb d_Ref_turnedInto_55 (by decide) ?_
              exact (by rw [if_neg c_188] at hj; exact hj)
            · refine lv_bipush (v := (32 : Int32)) hx hb d_Ref_turnedInto_50 (by decide) ?_
              refine lv_goto (tgt := 57) hx hb d_Ref_turnedInto_52 (by decide) ?_
              exact (by rw [if_pos c_188] at hj; exact hj)
          refine rv_v (As := [.int (if (q_Ref_first a0) = (2 : Int32) then (32 : Int32) else (64 : Int32))]) (rest := []) hq hA hP hS (c_Ref_format l A ad D cB cJ o r hne hA cd la lo hi re wi fr bi mi am we f (if (q_Ref_first a0) = (2 : Int32) then (32 : Int32) else (64 : Int32))) kB_Ref_format wt_558 ⟨rfl, rfl, Nat.le_of_ble_eq_true rfl, Nat.le_of_ble_eq_true rfl⟩ rfl hl.1 rfl (Nat.le_of_ble_eq_true rfl) d_Ref_turnedInto_57 ⟨Nat.zero_le _, Nat.zero_le _⟩ (fun H locs hP hS => ?_)
          refine lv_aload_n hx hb d_Ref_turnedInto_60 rfl (lv_at hl 1 rfl) ?_
          refine lv_lload_n hx hb d_Ref_turnedInto_61 rfl (lv_at hl 3 rfl) ?_
          refine lv_iload_n hx hb d_Ref_turnedInto_62 rfl (lv_at hl 2 rfl) ?_
          refine lv_sipush (v := (172 : Int32)) hx hb d_Ref_turnedInto_63 (by decide) ?_
          refine jn_ (J := 76) (ls := ls) (v := .int (if (172 : Int32) ≤ a0 then (64 : Int32) else (32 : Int32))) (rest := [.long a1, .ref o]) (fun hj => ?_) ?_
          · refine lv_icmp_ge (tgt := 74) hx hb d_Ref_turnedInto_66 (by decide) (fun c_189 => ?_) (fun c_189 => ?_)
            · refine lv_bipush (v := (64 : Int32)) hx hb d_Ref_turnedInto_74 (by decide) ?_
              exact (by rw [if_pos c_189] at hj; exact hj)
            · refine lv_bipush (v := (32 : Int32)) hx hb d_Ref_turnedInto_69 (by decide) ?_
              refine lv_goto (tgt := 76) hx hb d_Ref_turnedInto_71 (by decide) ?_
              exact (by rw [if_neg c_189] at hj; exact hj)
          refine lv_iload hx hb d_Ref_turnedInto_76 (lv_at hl 0 rfl) ?_
          refine rv_l (As := [.long a1, .int (if (172 : Int32) ≤ a0 then (64 : Int32) else (32 : Int32)), .int (if (a0 - a0 / (2 : Int32) * (2 : Int32)) = 0 then (1 : Int32) else (0 : Int32))]) (rest := []) hq hA hP hS (c_Ref_cut l A ad D cB cJ o r hne hA cd la lo hi re (q_Ref_format_wi (if (q_Ref_first a0) = (2 : Int32) then (32 : Int32) else (64 : Int32))) (q_Ref_format_fr (if (q_Ref_first a0) = (2 : Int32) then (32 : Int32) else (64 : Int32))) (q_Ref_format_bi (if (q_Ref_first a0) = (2 : Int32) then (32 : Int32) else (64 : Int32))) mi am we f a1 (if (172 : Int32) ≤ a0 then (64 : Int32) else (32 : Int32)) (if (a0 - a0 / (2 : Int32) * (2 : Int32)) = 0 then (1 : Int32) else (0 : Int32))) kB_Ref_cut wt_562 ⟨rfl, rfl, Nat.le_of_ble_eq_true rfl, Nat.le_of_ble_eq_true rfl⟩ rfl hl.1 rfl (Nat.le_of_ble_eq_true rfl) d_Ref_turnedInto_78 ⟨Nat.zero_le _, Nat.zero_le _⟩ (fun H locs hP hS => ?_)
          exact qr_l hq hr hk hP hS ⟨congrArg (fun z => some (Value.long z)) (by unfold q_Ref_turnedInto; exact (((if_neg c_2).trans ((if_neg c_95).trans ((if_neg c_98).trans ((if_neg c_143).trans rfl))))).symm), _, _, _, _, _, _, _, _, _, _, (by rw [show q_Ref_turnedInto_cd cd a0 a1 = (q_Ref_cut_cd cd (q_Ref_format_wi (if (q_Ref_first a0) = (2 : Int32) then (32 : Int32) else (64 : Int32))) (q_Ref_format_fr (if (q_Ref_first a0) = (2 : Int32) then (32 : Int32) else (64 : Int32))) (q_Ref_format_bi (if (q_Ref_first a0) = (2 : Int32) then (32 : Int32) else (64 : Int32))) (0 : Int32) (0 : Int64) (0 : Int32) a1 (if (172 : Int32) ≤ a0 then (64 : Int32) else (32 : Int32)) (if (a0 - a0 / (2 : Int32) * (2 : Int32)) = 0 then (1 : Int32) else (0 : Int32))) from by unfold q_Ref_turnedInto_cd; exact ((if_neg c_2).trans ((if_neg c_95).trans ((if_neg c_98).trans ((if_neg c_143).trans rfl))))]; first | done | rfl), hre, hf, hI⟩ d_Ref_turnedInto_81
def q_Ref_answer (cd : Int32) (a0 : Int32) (a1 : Int64) (a2 : Int64) : Int64 :=
  if a0 < (167 : Int32) then
    if a0 < (139 : Int32) then
      if a0 < (103 : Int32) then
        if a0 < (91 : Int32) then
          if a0 = (69 : Int32) then
            (if a1 = (0 : Int64) then (1 : Int64) else (0 : Int64))
          else
            if a0 = (80 : Int32) then
              (if a1 = (0 : Int64) then (1 : Int64) else (0 : Int64))
            else
              (if (q_Ref_isSo (a0 - (if (80 : Int32) ≤ a0 then (81 : Int32) else (70 : Int32))) (if (80 : Int32) ≤ a0 then (64 : Int32) else (32 : Int32)) a1 a2) = 0 then (0 : Int64) else (1 : Int64))
        else
          (if (q_Ref_compared (q_Ref_format_wi (if (97 : Int32) ≤ a0 then (64 : Int32) else (32 : Int32))) (q_Ref_format_fr (if (97 : Int32) ≤ a0 then (64 : Int32) else (32 : Int32))) (q_Ref_format_bi (if (97 : Int32) ≤ a0 then (64 : Int32) else (32 : Int32))) (a0 - (if (97 : Int32) ≤ a0 then (97 : Int32) else (91 : Int32))) a1 a2) = 0 then (0 : Int64) else (1 : Int64))
      else
        if (121 : Int32) ≤ a0 then
          (q_Ref_reckoned cd (a0 - (121 : Int32)) (64 : Int32) a1 a2)
        else
          (q_Ref_reckoned cd (a0 - (103 : Int32)) (32 : Int32) a1 a2)
    else
      (q_Ref_floated (fF (if (153 : Int32) ≤ a0 then (64 : Int32) else (32 : Int32))) (fB (if (153 : Int32) ≤ a0 then (64 : Int32) else (32 : Int32))) (q_Ref_format_wi (if (153 : Int32) ≤ a0 then (64 : Int32) else (32 : Int32))) (q_Ref_format_fr (if (153 : Int32) ≤ a0 then (64 : Int32) else (32 : Int32))) (q_Ref_format_bi (if (153 : Int32) ≤ a0 then (64 : Int32) else (32 : Int32))) (a0 - (if (153 : Int32) ≤ a0 then (153 : Int32) else (139 : Int32))) a1 a2)
  else
    (q_Ref_turnedInto cd a0 a1)
def q_Ref_answer_cd (cd : Int32) (a0 : Int32) (a1 : Int64) (a2 : Int64) : Int32 :=
  if a0 < (167 : Int32) then
    if a0 < (139 : Int32) then
      if a0 < (103 : Int32) then
        if a0 < (91 : Int32) then
          if a0 = (69 : Int32) then
            cd
          else
            if a0 = (80 : Int32) then
              cd
            else
              cd
        else
          cd
      else
        if (121 : Int32) ≤ a0 then
          (q_Ref_reckoned_cd cd (a0 - (121 : Int32)) (64 : Int32) a1 a2)
        else
          (q_Ref_reckoned_cd cd (a0 - (103 : Int32)) (32 : Int32) a1 a2)
    else
      cd
  else
    (q_Ref_turnedInto_cd cd a0 a1)
theorem kB_Ref_answer : RB y_Ref_answer b_Ref_answer 6 (some .long) 3 := ⟨wt_553, wt_552, wt_1, wt_36, by decide +kernel⟩
set_option maxHeartbeats 4000000 in
set_option maxRecDepth 100000 in
theorem c_Ref_answer (l : Launch) (A : Nat → Prop) (ad : Nat → Nat) (D : va_G) (cB cJ : ClassId) (o r : Nat) (hne : o ≠ r) (hA : ∀ q, rA o r q → A q) (cd : Int32) (la : Int64) (lo : Int32) (hi : Int32) (re : Int32) (wi : Int32) (fr : Int32) (bi : Int32) (mi : Int32) (am : Int64) (we : Int32) (f : Nat → Int32) (N : Nat) (hf : RowIs f N) (hI : RI lo hi N) (hre : re = 0 ∨ re = 1) (a0 : Int32) (a1 : Int64) (a2 : Int64) : Met l y_Ref_answer (Cond.code y_Ref_answer b_Ref_answer 6 (some .long) :: BT) ({ frames := 5, cells := 0, slots := 0, locals := 129 }) (PR A ad D cB cJ o r (rf_ cd la r lo hi re wi fr bi mi am we) f [.int a0, .long a1, .long a2]) (QP D cB o r (fun v fs' f' => v = some (.long (q_Ref_answer cd a0 a1 a2)) ∧ SJ r (q_Ref_answer_cd cd a0 a1 a2) la fs' f')) 0 0 (rA o r) := by
  refine pr_ (by decide) (Nat.le_of_ble_eq_true rfl) ?_
  intro p e s m below meth c hq hP hS hr hk ls hl
  have hx := hq.1
  have hb := hq.2.1
  have hts := hq.2.2.2.2.1
  have hl : lv_has ls 6 [(0, .ref o), (1, .int a0), (2, .long a1), (4, .long a2)] := hl
  refine lv_iload_n hx hb d_Ref_answer_0 rfl (lv_at hl 1 rfl) ?_
  refine lv_sipush (v := (167 : Int32)) hx hb d_Ref_answer_1 (by decide) ?_
  refine lv_icmp_lt (tgt := 14) hx hb d_Ref_answer_4 (by decide) (fun c_1 => ?_) (fun c_1 => ?_)
  · refine lv_iload_n hx hb d_Ref_answer_14 rfl (lv_at hl 1 rfl) ?_
    refine lv_sipush (v := (139 : Int32)) hx hb d_Ref_answer_15 (by decide) ?_
    refine lv_icmp_lt (tgt := 65) hx hb d_Ref_answer_18 (by decide) (fun c_2 => ?_) (fun c_2 => ?_)
    · refine lv_iload_n hx hb d_Ref_answer_65 rfl (lv_at hl 1 rfl) ?_
      refine lv_bipush (v := (103 : Int32)) hx hb d_Ref_answer_66 (by decide) ?_
      refine lv_icmp_lt (tgt := 107) hx hb d_Ref_answer_68 (by decide) (fun c_3 => ?_) (fun c_3 => ?_)
      · refine lv_iload_n hx hb d_Ref_answer_107 rfl (lv_at hl 1 rfl) ?_
        refine lv_bipush (v := (91 : Int32)) hx hb d_Ref_answer_108 (by decide) ?_
        refine lv_icmp_lt (tgt := 161) hx hb d_Ref_answer_110 (by decide) (fun c_4 => ?_) (fun c_4 => ?_)
        · refine lv_iload_n hx hb d_Ref_answer_161 rfl (lv_at hl 1 rfl) ?_
          refine lv_bipush (v := (69 : Int32)) hx hb d_Ref_answer_162 (by decide) ?_
          refine lv_icmp_eq (tgt := 173) hx hb d_Ref_answer_164 (by decide) (fun c_5 => ?_) (fun c_5 => ?_)
          · refine lv_lload_n hx hb d_Ref_answer_173 rfl (lv_at hl 2 rfl) ?_
            refine lv_lconst (v := (0 : Int64)) hx hb d_Ref_answer_174 (by decide) ?_
            refine W.lcmp hx hb d_Ref_answer_175 ?_
            refine jn_ (J := 184) (ls := ls) (v := .long (if a1 = (0 : Int64) then (1 : Int64) else (0 : Int64))) (rest := []) (fun hj => ?_) ?_
            · refine lv_if_ne (tgt := 183) hx hb d_Ref_answer_176 (by decide) (fun c_6 => ?_) (fun c_6 => ?_)
              · rw [lg_cmp_eq] at c_6
                refine lv_lconst (v := (0 : Int64)) hx hb d_Ref_answer_183 (by decide) ?_
                exact (by rw [if_neg c_6] at hj; exact hj)
              · rw [lg_cmp_eq] at c_6
                refine lv_lconst (v := (1 : Int64)) hx hb d_Ref_answer_179 (by decide) ?_
                refine lv_goto (tgt := 184) hx hb d_Ref_answer_180 (by decide) ?_
                exact (by rw [if_pos c_6] at hj; exact hj)
            exact qr_l hq hr hk hP hS ⟨congrArg (fun z => some (Value.long z)) (by unfold q_Ref_answer; exact (((if_pos c_1).trans ((if_pos c_2).trans ((if_pos c_3).trans ((if_pos c_4).trans ((if_pos c_5).trans rfl)))))).symm), _, _, _, _, _, _, _, _, _, _, (by rw [show q_Ref_answer_cd cd a0 a1 a2 = cd from by unfold q_Ref_answer_cd; exact ((if_pos c_1).trans ((if_pos c_2).trans ((if_pos c_3).trans ((if_pos c_4).trans ((if_pos c_5).trans rfl)))))]; first | done | rfl), hre, hf, hI⟩ d_Ref_answer_184
          · refine lv_iload_n hx hb d_Ref_answer_167 rfl (lv_at hl 1 rfl) ?_
            refine lv_bipush (v := (80 : Int32)) hx hb d_Ref_answer_168 (by decide) ?_
            refine lv_icmp_ne (tgt := 185) hx hb d_Ref_answer_170 (by decide) (fun c_7 => ?_) (fun c_7 => ?_)
            · refine lv_iload_n hx hb d_Ref_answer_185 rfl (lv_at hl 1 rfl) ?_
              refine lv_iload_n hx hb d_Ref_answer_186 rfl (lv_at hl 1 rfl) ?_
              refine lv_bipush (v := (80 : Int32)) hx hb d_Ref_answer_187 (by decide) ?_
              refine jn_ (J := 199) (ls := ls) (v := .int (if (80 : Int32) ≤ a0 then (81 : Int32) else (70 : Int32))) (rest := [.int a0]) (fun hj => ?_) ?_
              · refine lv_icmp_ge (tgt := 197) hx hb d_Ref_answer_189 (by decide) (fun c_8 => ?_) (fun c_8 => ?_)
                · refine lv_bipush (v := (81 : Int32)) hx hb d_Ref_answer_197 (by decide) ?_
                  exact (by rw [if_pos c_8] at hj; exact hj)
                · refine lv_bipush (v := (70 : Int32)) hx hb d_Ref_answer_192 (by decide) ?_
                  refine lv_goto (tgt := 199) hx hb d_Ref_answer_194 (by decide) ?_
                  exact (by rw [if_neg c_8] at hj; exact hj)
              refine lv_isub hx hb d_Ref_answer_199 ?_
              refine lv_iload_n hx hb d_Ref_answer_200 rfl (lv_at hl 1 rfl) ?_
              refine lv_bipush (v := (80 : Int32)) hx hb d_Ref_answer_201 (by decide) ?_
              refine jn_ (J := 213) (ls := ls) (v := .int (if (80 : Int32) ≤ a0 then (64 : Int32) else (32 : Int32))) (rest := [.int (a0 - (if (80 : Int32) ≤ a0 then (81 : Int32) else (70 : Int32)))]) (fun hj => ?_) ?_
              · refine lv_icmp_ge (tgt := 211) hx hb d_Ref_answer_203 (by decide) (fun c_9 => ?_) (fun c_9 => ?_)
                · refine lv_bipush (v := (64 : Int32)) hx hb d_Ref_answer_211 (by decide) ?_
                  exact (by rw [if_pos c_9] at hj; exact hj)
                · refine lv_bipush (v := (32 : Int32)) hx hb d_Ref_answer_206 (by decide) ?_
                  refine lv_goto (tgt := 213) hx hb d_Ref_answer_208 (by decide) ?_
                  exact (by rw [if_neg c_9] at hj; exact hj)
              refine lv_lload_n hx hb d_Ref_answer_213 rfl (lv_at hl 2 rfl) ?_
              refine lv_lload hx hb d_Ref_answer_214 (lv_at hl 3 rfl) ?_
              refine hi_ (As := [.int (a0 - (if (80 : Int32) ≤ a0 then (81 : Int32) else (70 : Int32))), .int (if (80 : Int32) ≤ a0 then (64 : Int32) else (32 : Int32)), .long a1, .long a2]) (rest := []) hq hA hS (c_Ref_isSo l A ad (a0 - (if (80 : Int32) ≤ a0 then (81 : Int32) else (70 : Int32))) (if (80 : Int32) ≤ a0 then (64 : Int32) else (32 : Int32)) a1 a2) kB_Ref_isSo wt_707 ⟨rfl, rfl, Nat.le_of_ble_eq_true rfl, Nat.le_of_ble_eq_true rfl⟩ rfl hl.1 rfl (Nat.le_of_ble_eq_true rfl) d_Ref_answer_216 ⟨Nat.zero_le _, Nat.zero_le _⟩ ?_
              refine jn_ (J := 227) (ls := ls) (v := .long (if (q_Ref_isSo (a0 - (if (80 : Int32) ≤ a0 then (81 : Int32) else (70 : Int32))) (if (80 : Int32) ≤ a0 then (64 : Int32) else (32 : Int32)) a1 a2) = 0 then (0 : Int64) else (1 : Int64))) (rest := []) (fun hj => ?_) ?_
              · refine lv_if_eq (tgt := 226) hx hb d_Ref_answer_219 (by decide) (fun c_10 => ?_) (fun c_10 => ?_)
                · refine lv_lconst (v := (0 : Int64)) hx hb d_Ref_answer_226 (by decide) ?_
                  exact (by rw [if_pos c_10] at hj; exact hj)
                · refine lv_lconst (v := (1 : Int64)) hx hb d_Ref_answer_222 (by decide) ?_
                  refine lv_goto (tgt := 227) hx hb d_Ref_answer_223 (by decide) ?_
                  exact (by rw [if_neg c_10] at hj; exact hj)
              exact qr_l hq hr hk hP hS ⟨congrArg (fun z => some (Value.long z)) (by unfold q_Ref_answer; exact (((if_pos c_1).trans ((if_pos c_2).trans ((if_pos c_3).trans ((if_pos c_4).trans ((if_neg c_5).trans ((if_neg c_7).trans rfl))))))).symm), _, _, _, _, _, _, _, _, _, _, (by rw [show q_Ref_answer_cd cd a0 a1 a2 = cd from by unfold q_Ref_answer_cd; exact ((if_pos c_1).trans ((if_pos c_2).trans ((if_pos c_3).trans ((if_pos c_4).trans ((if_neg c_5).trans ((if_neg c_7).trans rfl))))))]; first | done | rfl), hre, hf, hI⟩ d_Ref_answer_227
            · refine lv_lload_n hx hb d_Ref_answer_173 rfl (lv_at hl 2 rfl) ?_
              refine lv_lconst (v := (0 : Int64)) hx hb d_Ref_answer_174 (by decide) ?_
              refine W.lcmp hx hb d_Ref_answer_175 ?_
              refine jn_ (J := 184) (ls := ls) (v := .long (if a1 = (0 : Int64) then (1 : Int64) else (0 : Int64))) (rest := []) (fun hj => ?_) ?_
              · refine lv_if_ne (tgt := 183) hx hb d_Ref_answer_176 (by decide) (fun c_11 => ?_) (fun c_11 => ?_)
                · rw [lg_cmp_eq] at c_11
                  refine lv_lconst (v := (0 : Int64)) hx hb d_Ref_answer_183 (by decide) ?_
                  exact (by rw [if_neg c_11] at hj; exact hj)
                · rw [lg_cmp_eq] at c_11
                  refine lv_lconst (v := (1 : Int64)) hx hb d_Ref_answer_179 (by decide) ?_
                  refine lv_goto (tgt := 184) hx hb d_Ref_answer_180 (by decide) ?_
                  exact (by rw [if_pos c_11] at hj; exact hj)
              exact qr_l hq hr hk hP hS ⟨congrArg (fun z => some (Value.long z)) (by unfold q_Ref_answer; exact (((if_pos c_1).trans ((if_pos c_2).trans ((if_pos c_3).trans ((if_pos c_4).trans ((if_neg c_5).trans ((if_pos c_7).trans rfl))))))).symm), _, _, _, _, _, _, _, _, _, _, (by rw [show q_Ref_answer_cd cd a0 a1 a2 = cd from by unfold q_Ref_answer_cd; exact ((if_pos c_1).trans ((if_pos c_2).trans ((if_pos c_3).trans ((if_pos c_4).trans ((if_neg c_5).trans ((if_pos c_7).trans rfl))))))]; first | done | rfl), hre, hf, hI⟩ d_Ref_answer_184
        · refine lv_aload_n hx hb d_Ref_answer_113 rfl (lv_at hl 0 rfl) ?_
          refine lv_iload_n hx hb d_Ref_answer_114 rfl (lv_at hl 1 rfl) ?_
          refine lv_bipush (v := (97 : Int32)) hx hb d_Ref_answer_115 (by decide) ?_
          refine jn_ (J := 127) (ls := ls) (v := .int (if (97 : Int32) ≤ a0 then (64 : Int32) else (32 : Int32))) (rest := [.ref o]) (fun hj => ?_) ?_
          · refine lv_icmp_ge (tgt := 125) hx hb d_Ref_answer_117 (by decide) (fun c_12 => ?_) (fun c_12 => ?_)
            · refine lv_bipush (v := (64 : Int32)) hx hb d_Ref_answer_125 (by decide) ?_
              exact (by rw [if_pos c_12] at hj; exact hj)
            · refine lv_bipush (v := (32 : Int32)) hx hb d_Ref_answer_120 (by decide) ?_
              refine lv_goto (tgt := 127) hx hb d_Ref_answer_122 (by decide) ?_
              exact (by rw [if_neg c_12] at hj; exact hj)
          refine rv_v (As := [.int (if (97 : Int32) ≤ a0 then (64 : Int32) else (32 : Int32))]) (rest := []) hq hA hP hS (c_Ref_format l A ad D cB cJ o r hne hA cd la lo hi re wi fr bi mi am we f (if (97 : Int32) ≤ a0 then (64 : Int32) else (32 : Int32))) kB_Ref_format wt_558 ⟨rfl, rfl, Nat.le_of_ble_eq_true rfl, Nat.le_of_ble_eq_true rfl⟩ rfl hl.1 rfl (Nat.le_of_ble_eq_true rfl) d_Ref_answer_127 ⟨Nat.zero_le _, Nat.zero_le _⟩ (fun H locs hP hS => ?_)
          refine lv_aload_n hx hb d_Ref_answer_130 rfl (lv_at hl 0 rfl) ?_
          refine lv_iload_n hx hb d_Ref_answer_131 rfl (lv_at hl 1 rfl) ?_
          refine lv_iload_n hx hb d_Ref_answer_132 rfl (lv_at hl 1 rfl) ?_
          refine lv_bipush (v := (97 : Int32)) hx hb d_Ref_answer_133 (by decide) ?_
          refine jn_ (J := 145) (ls := ls) (v := .int (if (97 : Int32) ≤ a0 then (97 : Int32) else (91 : Int32))) (rest := [.int a0, .ref o]) (fun hj => ?_) ?_
          · refine lv_icmp_ge (tgt := 143) hx hb d_Ref_answer_135 (by decide) (fun c_13 => ?_) (fun c_13 => ?_)
            · refine lv_bipush (v := (97 : Int32)) hx hb d_Ref_answer_143 (by decide) ?_
              exact (by rw [if_pos c_13] at hj; exact hj)
            · refine lv_bipush (v := (91 : Int32)) hx hb d_Ref_answer_138 (by decide) ?_
              refine lv_goto (tgt := 145) hx hb d_Ref_answer_140 (by decide) ?_
              exact (by rw [if_neg c_13] at hj; exact hj)
          refine lv_isub hx hb d_Ref_answer_145 ?_
          refine lv_lload_n hx hb d_Ref_answer_146 rfl (lv_at hl 2 rfl) ?_
          refine lv_lload hx hb d_Ref_answer_147 (lv_at hl 3 rfl) ?_
          refine rv_i (As := [.int (a0 - (if (97 : Int32) ≤ a0 then (97 : Int32) else (91 : Int32))), .long a1, .long a2]) (rest := []) hq hA hP hS (c_Ref_compared l A ad D cB cJ o r hne hA cd la lo hi re (q_Ref_format_wi (if (97 : Int32) ≤ a0 then (64 : Int32) else (32 : Int32))) (q_Ref_format_fr (if (97 : Int32) ≤ a0 then (64 : Int32) else (32 : Int32))) (q_Ref_format_bi (if (97 : Int32) ≤ a0 then (64 : Int32) else (32 : Int32))) mi am we f (a0 - (if (97 : Int32) ≤ a0 then (97 : Int32) else (91 : Int32))) a1 a2) kB_Ref_compared wt_703 ⟨rfl, rfl, Nat.le_of_ble_eq_true rfl, Nat.le_of_ble_eq_true rfl⟩ rfl hl.1 rfl (Nat.le_of_ble_eq_true rfl) d_Ref_answer_149 ⟨Nat.zero_le _, Nat.zero_le _⟩ (fun H locs hP hS => ?_)
          refine jn_ (J := 160) (ls := ls) (v := .long (if (q_Ref_compared (q_Ref_format_wi (if (97 : Int32) ≤ a0 then (64 : Int32) else (32 : Int32))) (q_Ref_format_fr (if (97 : Int32) ≤ a0 then (64 : Int32) else (32 : Int32))) (q_Ref_format_bi (if (97 : Int32) ≤ a0 then (64 : Int32) else (32 : Int32))) (a0 - (if (97 : Int32) ≤ a0 then (97 : Int32) else (91 : Int32))) a1 a2) = 0 then (0 : Int64) else (1 : Int64))) (rest := []) (fun hj => ?_) ?_
          · refine lv_if_eq (tgt := 159) hx hb d_Ref_answer_152 (by decide) (fun c_14 => ?_) (fun c_14 => ?_)
            · refine lv_lconst (v := (0 : Int64)) hx hb d_Ref_answer_159 (by decide) ?_
              exact (by rw [if_pos c_14] at hj; exact hj)
            · refine lv_lconst (v := (1 : Int64)) hx hb d_Ref_answer_155 (by decide) ?_
              refine lv_goto (tgt := 160) hx hb d_Ref_answer_156 (by decide) ?_
              exact (by rw [if_neg c_14] at hj; exact hj)
          exact qr_l hq hr hk hP hS ⟨congrArg (fun z => some (Value.long z)) (by unfold q_Ref_answer; exact (((if_pos c_1).trans ((if_pos c_2).trans ((if_pos c_3).trans ((if_neg c_4).trans rfl))))).symm), _, _, _, _, _, _, _, _, _, _, (by rw [show q_Ref_answer_cd cd a0 a1 a2 = cd from by unfold q_Ref_answer_cd; exact ((if_pos c_1).trans ((if_pos c_2).trans ((if_pos c_3).trans ((if_neg c_4).trans rfl))))]; first | done | rfl), hre, hf, hI⟩ d_Ref_answer_160
      · refine lv_iload_n hx hb d_Ref_answer_71 rfl (lv_at hl 1 rfl) ?_
        refine lv_bipush (v := (121 : Int32)) hx hb d_Ref_answer_72 (by decide) ?_
        refine lv_icmp_ge (tgt := 93) hx hb d_Ref_answer_74 (by decide) (fun c_15 => ?_) (fun c_15 => ?_)
        · refine lv_aload_n hx hb d_Ref_answer_93 rfl (lv_at hl 0 rfl) ?_
          refine lv_iload_n hx hb d_Ref_answer_94 rfl (lv_at hl 1 rfl) ?_
          refine lv_bipush (v := (121 : Int32)) hx hb d_Ref_answer_95 (by decide) ?_
          refine lv_isub hx hb d_Ref_answer_97 ?_
          refine lv_bipush (v := (64 : Int32)) hx hb d_Ref_answer_98 (by decide) ?_
          refine lv_lload_n hx hb d_Ref_answer_100 rfl (lv_at hl 2 rfl) ?_
          refine lv_lload hx hb d_Ref_answer_101 (lv_at hl 3 rfl) ?_
          refine rv_l (As := [.int (a0 - (121 : Int32)), .int (64 : Int32), .long a1, .long a2]) (rest := []) hq hA hP hS (c_Ref_reckoned l A ad D cB cJ o r hne hA cd la lo hi re wi fr bi mi am we f (a0 - (121 : Int32)) (64 : Int32) a1 a2 (Or.inr rfl) (by decide)) kB_Ref_reckoned wt_683 ⟨rfl, rfl, Nat.le_of_ble_eq_true rfl, Nat.le_of_ble_eq_true rfl⟩ rfl hl.1 rfl (Nat.le_of_ble_eq_true rfl) d_Ref_answer_103 ⟨Nat.zero_le _, Nat.zero_le _⟩ (fun H locs hP hS => ?_)
          exact qr_l hq hr hk hP hS ⟨congrArg (fun z => some (Value.long z)) (by unfold q_Ref_answer; exact (((if_pos c_1).trans ((if_pos c_2).trans ((if_neg c_3).trans ((if_pos c_15).trans rfl))))).symm), _, _, _, _, _, _, _, _, _, _, (by rw [show q_Ref_answer_cd cd a0 a1 a2 = (q_Ref_reckoned_cd cd (a0 - (121 : Int32)) (64 : Int32) a1 a2) from by unfold q_Ref_answer_cd; exact ((if_pos c_1).trans ((if_pos c_2).trans ((if_neg c_3).trans ((if_pos c_15).trans rfl))))]; first | done | rfl), hre, hf, hI⟩ d_Ref_answer_106
        · refine lv_aload_n hx hb d_Ref_answer_77 rfl (lv_at hl 0 rfl) ?_
          refine lv_iload_n hx hb d_Ref_answer_78 rfl (lv_at hl 1 rfl) ?_
          refine lv_bipush (v := (103 : Int32)) hx hb d_Ref_answer_79 (by decide) ?_
          refine lv_isub hx hb d_Ref_answer_81 ?_
          refine lv_bipush (v := (32 : Int32)) hx hb d_Ref_answer_82 (by decide) ?_
          refine lv_lload_n hx hb d_Ref_answer_84 rfl (lv_at hl 2 rfl) ?_
          refine lv_lload hx hb d_Ref_answer_85 (lv_at hl 3 rfl) ?_
          refine rv_l (As := [.int (a0 - (103 : Int32)), .int (32 : Int32), .long a1, .long a2]) (rest := []) hq hA hP hS (c_Ref_reckoned l A ad D cB cJ o r hne hA cd la lo hi re wi fr bi mi am we f (a0 - (103 : Int32)) (32 : Int32) a1 a2 (Or.inl rfl) (by decide)) kB_Ref_reckoned wt_683 ⟨rfl, rfl, Nat.le_of_ble_eq_true rfl, Nat.le_of_ble_eq_true rfl⟩ rfl hl.1 rfl (Nat.le_of_ble_eq_true rfl) d_Ref_answer_87 ⟨Nat.zero_le _, Nat.zero_le _⟩ (fun H locs hP hS => ?_)
          refine lv_goto (tgt := 106) hx hb d_Ref_answer_90 (by decide) ?_
          exact qr_l hq hr hk hP hS ⟨congrArg (fun z => some (Value.long z)) (by unfold q_Ref_answer; exact (((if_pos c_1).trans ((if_pos c_2).trans ((if_neg c_3).trans ((if_neg c_15).trans rfl))))).symm), _, _, _, _, _, _, _, _, _, _, (by rw [show q_Ref_answer_cd cd a0 a1 a2 = (q_Ref_reckoned_cd cd (a0 - (103 : Int32)) (32 : Int32) a1 a2) from by unfold q_Ref_answer_cd; exact ((if_pos c_1).trans ((if_pos c_2).trans ((if_neg c_3).trans ((if_neg c_15).trans rfl))))]; first | done | rfl), hre, hf, hI⟩ d_Ref_answer_106
    · refine lv_aload_n hx hb d_Ref_answer_21 rfl (lv_at hl 0 rfl) ?_
      refine lv_iload_n hx hb d_Ref_answer_22 rfl (lv_at hl 1 rfl) ?_
      refine lv_sipush (v := (153 : Int32)) hx hb d_Ref_answer_23 (by decide) ?_
      refine jn_ (J := 36) (ls := ls) (v := .int (if (153 : Int32) ≤ a0 then (64 : Int32) else (32 : Int32))) (rest := [.ref o]) (fun hj => ?_) ?_
      · refine lv_icmp_ge (tgt := 34) hx hb d_Ref_answer_26 (by decide) (fun c_16 => ?_) (fun c_16 => ?_)
        · refine lv_bipush (v := (64 : Int32)) hx hb d_Ref_answer_34 (by decide) ?_
          exact (by rw [if_pos c_16] at hj; exact hj)
        · refine lv_bipush (v := (32 : Int32)) hx hb d_Ref_answer_29 (by decide) ?_
          refine lv_goto (tgt := 36) hx hb d_Ref_answer_31 (by decide) ?_
          exact (by rw [if_neg c_16] at hj; exact hj)
      refine rv_v (As := [.int (if (153 : Int32) ≤ a0 then (64 : Int32) else (32 : Int32))]) (rest := []) hq hA hP hS (c_Ref_format l A ad D cB cJ o r hne hA cd la lo hi re wi fr bi mi am we f (if (153 : Int32) ≤ a0 then (64 : Int32) else (32 : Int32))) kB_Ref_format wt_558 ⟨rfl, rfl, Nat.le_of_ble_eq_true rfl, Nat.le_of_ble_eq_true rfl⟩ rfl hl.1 rfl (Nat.le_of_ble_eq_true rfl) d_Ref_answer_36 ⟨Nat.zero_le _, Nat.zero_le _⟩ (fun H locs hP hS => ?_)
      refine lv_aload_n hx hb d_Ref_answer_39 rfl (lv_at hl 0 rfl) ?_
      refine lv_iload_n hx hb d_Ref_answer_40 rfl (lv_at hl 1 rfl) ?_
      refine lv_iload_n hx hb d_Ref_answer_41 rfl (lv_at hl 1 rfl) ?_
      refine lv_sipush (v := (153 : Int32)) hx hb d_Ref_answer_42 (by decide) ?_
      refine jn_ (J := 57) (ls := ls) (v := .int (if (153 : Int32) ≤ a0 then (153 : Int32) else (139 : Int32))) (rest := [.int a0, .ref o]) (fun hj => ?_) ?_
      · refine lv_icmp_ge (tgt := 54) hx hb d_Ref_answer_45 (by decide) (fun c_17 => ?_) (fun c_17 => ?_)
        · refine lv_sipush (v := (153 : Int32)) hx hb d_Ref_answer_54 (by decide) ?_
          exact (by rw [if_pos c_17] at hj; exact hj)
        · refine lv_sipush (v := (139 : Int32)) hx hb d_Ref_answer_48 (by decide) ?_
          refine lv_goto (tgt := 57) hx hb d_Ref_answer_51 (by decide) ?_
          exact (by rw [if_neg c_17] at hj; exact hj)
      refine lv_isub hx hb d_Ref_answer_57 ?_
      refine lv_lload_n hx hb d_Ref_answer_58 rfl (lv_at hl 2 rfl) ?_
      refine lv_lload hx hb d_Ref_answer_59 (lv_at hl 3 rfl) ?_
      refine rq_ (As := [.int (a0 - (if (153 : Int32) ≤ a0 then (153 : Int32) else (139 : Int32))), .long a1, .long a2]) (rest := []) hq hA hP hS (c_Ref_floated l A ad D cB cJ o r hne hA cd la lo hi re (q_Ref_format_wi (if (153 : Int32) ≤ a0 then (64 : Int32) else (32 : Int32))) (q_Ref_format_fr (if (153 : Int32) ≤ a0 then (64 : Int32) else (32 : Int32))) (q_Ref_format_bi (if (153 : Int32) ≤ a0 then (64 : Int32) else (32 : Int32))) mi am we f N hf hI hre (a0 - (if (153 : Int32) ≤ a0 then (153 : Int32) else (139 : Int32))) a1 a2 (fF (if (153 : Int32) ≤ a0 then (64 : Int32) else (32 : Int32))) (fB (if (153 : Int32) ≤ a0 then (64 : Int32) else (32 : Int32))) (fm_of (by (repeat' split) <;> first | exact Or.inl rfl | exact Or.inr rfl))) kB_Ref_floated wt_645 ⟨rfl, rfl, Nat.le_of_ble_eq_true rfl, Nat.le_of_ble_eq_true rfl⟩ rfl hl.1 rfl (Nat.le_of_ble_eq_true rfl) d_Ref_answer_61 ⟨Nat.zero_le _, Nat.zero_le _⟩ (fun v9 fs9 f_18 H locs hk9 hP hS => ?_)
      obtain ⟨rfl, lo_18, hi_18, re_18, wi_18, fr_18, bi_18, mi_18, am_18, we_18, N_18, rfl, hre_18, hf_18, hI_18⟩ := hk9
      exact qr_l hq hr hk hP hS ⟨congrArg (fun z => some (Value.long z)) (by unfold q_Ref_answer; exact (((if_pos c_1).trans ((if_neg c_2).trans rfl))).symm), _, _, _, _, _, _, _, _, _, _, (by rw [show q_Ref_answer_cd cd a0 a1 a2 = cd from by unfold q_Ref_answer_cd; exact ((if_pos c_1).trans ((if_neg c_2).trans rfl))]; first | done | rfl), hre_18, hf_18, hI_18⟩ d_Ref_answer_64
  · refine lv_aload_n hx hb d_Ref_answer_7 rfl (lv_at hl 0 rfl) ?_
    refine lv_iload_n hx hb d_Ref_answer_8 rfl (lv_at hl 1 rfl) ?_
    refine lv_lload_n hx hb d_Ref_answer_9 rfl (lv_at hl 2 rfl) ?_
    refine rq_ (As := [.int a0, .long a1]) (rest := []) hq hA hP hS (c_Ref_turnedInto l A ad D cB cJ o r hne hA cd la lo hi re wi fr bi mi am we f N hf hI hre a0 a1) kB_Ref_turnedInto wt_554 ⟨rfl, rfl, Nat.le_of_ble_eq_true rfl, Nat.le_of_ble_eq_true rfl⟩ rfl hl.1 rfl (Nat.le_of_ble_eq_true rfl) d_Ref_answer_10 ⟨Nat.zero_le _, Nat.zero_le _⟩ (fun v9 fs9 f_19 H locs hk9 hP hS => ?_)
    obtain ⟨rfl, lo_19, hi_19, re_19, wi_19, fr_19, bi_19, mi_19, am_19, we_19, N_19, rfl, hre_19, hf_19, hI_19⟩ := hk9
    exact qr_l hq hr hk hP hS ⟨congrArg (fun z => some (Value.long z)) (by unfold q_Ref_answer; exact (((if_neg c_1).trans rfl)).symm), _, _, _, _, _, _, _, _, _, _, (by rw [show q_Ref_answer_cd cd a0 a1 a2 = (q_Ref_turnedInto_cd cd a0 a1) from by unfold q_Ref_answer_cd; exact ((if_neg c_1).trans rfl)]; first | done | rfl), hre_19, hf_19, hI_19⟩ d_Ref_answer_13
